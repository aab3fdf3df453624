/-! The reference over any state: ranks -/
theorem k62 : Cond.selects RX6 yX6_ahead yX6_ahead ∈ GW := gm 62 (by decide +kernel) (by decide +kernel)
theorem k1515 : Cond.methodLink RX6 251 yX6_ahead ∈ GW := gm 1515 (by decide +kernel) (by decide +kernel)
theorem k1517 : Cond.instanceMethod yX6_ahead ∈ GW := gm 1517 (by decide +kernel) (by decide +kernel)
theorem k1518 : Cond.code yX6_ahead cX6_ahead 8 (some .int) ∈ GW := gm 1518 (by decide +kernel) (by decide +kernel)
theorem dX6_ahead_0 : decode cX6_ahead 0 = .ok (.aload_n 0, 1) := by decide +kernel
theorem dX6_ahead_1 : decode cX6_ahead 1 = .ok (.iload_n 1, 1) := by decide +kernel
theorem dX6_ahead_2 : decode cX6_ahead 2 = .ok (.iconst 3, 1) := by decide +kernel
theorem dX6_ahead_3 : decode cX6_ahead 3 = .ok (.invokevirtual 208, 3) := by decide +kernel
theorem dX6_ahead_6 : decode cX6_ahead 6 = .ok (.invokestatic 239, 3) := by decide +kernel
theorem dX6_ahead_9 : decode cX6_ahead 9 = .ok (.lstore_n 2, 1) := by decide +kernel
theorem dX6_ahead_10 : decode cX6_ahead 10 = .ok (.iconst 0, 1) := by decide +kernel
theorem dX6_ahead_11 : decode cX6_ahead 11 = .ok (.istore 4, 2) := by decide +kernel
theorem dX6_ahead_13 : decode cX6_ahead 13 = .ok (.iconst 0, 1) := by decide +kernel
theorem dX6_ahead_14 : decode cX6_ahead 14 = .ok (.istore 5, 2) := by decide +kernel
theorem dX6_ahead_16 : decode cX6_ahead 16 = .ok (.iload 5, 2) := by decide +kernel
theorem dX6_ahead_18 : decode cX6_ahead 18 = .ok (.aload_n 0, 1) := by decide +kernel
theorem dX6_ahead_19 : decode cX6_ahead 19 = .ok (.invokevirtual 199, 3) := by decide +kernel
theorem dX6_ahead_22 : decode cX6_ahead 22 = .ok (.if_icmp .ge 51, 3) := by decide +kernel
theorem dX6_ahead_25 : decode cX6_ahead 25 = .ok (.aload_n 0, 1) := by decide +kernel
theorem dX6_ahead_26 : decode cX6_ahead 26 = .ok (.iload 5, 2) := by decide +kernel
theorem dX6_ahead_28 : decode cX6_ahead 28 = .ok (.iconst 3, 1) := by decide +kernel
theorem dX6_ahead_29 : decode cX6_ahead 29 = .ok (.invokevirtual 208, 3) := by decide +kernel
theorem dX6_ahead_32 : decode cX6_ahead 32 = .ok (.invokestatic 239, 3) := by decide +kernel
theorem dX6_ahead_35 : decode cX6_ahead 35 = .ok (.lstore 6, 2) := by decide +kernel
theorem dX6_ahead_37 : decode cX6_ahead 37 = .ok (.iload 4, 2) := by decide +kernel
theorem dX6_ahead_39 : decode cX6_ahead 39 = .ok (.lload 6, 2) := by decide +kernel
theorem dX6_ahead_41 : decode cX6_ahead 41 = .ok (.lload_n 2, 1) := by decide +kernel
theorem dX6_ahead_42 : decode cX6_ahead 42 = .ok (.lcmp, 1) := by decide +kernel
theorem dX6_ahead_43 : decode cX6_ahead 43 = .ok (.ifCond .gt 16, 3) := by decide +kernel
theorem dX6_ahead_46 : decode cX6_ahead 46 = .ok (.lload 6, 2) := by decide +kernel
theorem dX6_ahead_48 : decode cX6_ahead 48 = .ok (.lload_n 2, 1) := by decide +kernel
theorem dX6_ahead_49 : decode cX6_ahead 49 = .ok (.lcmp, 1) := by decide +kernel
theorem dX6_ahead_50 : decode cX6_ahead 50 = .ok (.ifCond .ne 13, 3) := by decide +kernel
theorem dX6_ahead_53 : decode cX6_ahead 53 = .ok (.iload 5, 2) := by decide +kernel
theorem dX6_ahead_55 : decode cX6_ahead 55 = .ok (.iload_n 1, 1) := by decide +kernel
theorem dX6_ahead_56 : decode cX6_ahead 56 = .ok (.if_icmp .ge 7, 3) := by decide +kernel
theorem dX6_ahead_59 : decode cX6_ahead 59 = .ok (.iconst 1, 1) := by decide +kernel
theorem dX6_ahead_60 : decode cX6_ahead 60 = .ok (.goto 4, 3) := by decide +kernel
theorem dX6_ahead_63 : decode cX6_ahead 63 = .ok (.iconst 0, 1) := by decide +kernel
theorem dX6_ahead_64 : decode cX6_ahead 64 = .ok (.iadd, 1) := by decide +kernel
theorem dX6_ahead_65 : decode cX6_ahead 65 = .ok (.istore 4, 2) := by decide +kernel
theorem dX6_ahead_67 : decode cX6_ahead 67 = .ok (.iinc 5 1, 3) := by decide +kernel
theorem dX6_ahead_70 : decode cX6_ahead 70 = .ok (.goto (-54), 3) := by decide +kernel
theorem dX6_ahead_73 : decode cX6_ahead 73 = .ok (.iload 4, 2) := by decide +kernel
theorem dX6_ahead_75 : decode cX6_ahead 75 = .ok (.ireturn, 1) := by decide +kernel
theorem dX6_largest_0 : decode cX6_largest 0 = .ok (.aload_n 0, 1) := by decide +kernel
theorem dX6_largest_1 : decode cX6_largest 1 = .ok (.aload_n 0, 1) := by decide +kernel
theorem dX6_largest_2 : decode cX6_largest 2 = .ok (.iload_n 1, 1) := by decide +kernel
theorem dX6_largest_3 : decode cX6_largest 3 = .ok (.invokevirtual 229, 3) := by decide +kernel
theorem dX6_largest_6 : decode cX6_largest 6 = .ok (.ifCond .eq 7, 3) := by decide +kernel
theorem dX6_largest_9 : decode cX6_largest 9 = .ok (.iconst 0, 1) := by decide +kernel
theorem dX6_largest_10 : decode cX6_largest 10 = .ok (.goto 4, 3) := by decide +kernel
theorem dX6_largest_13 : decode cX6_largest 13 = .ok (.iconst 1, 1) := by decide +kernel
theorem dX6_largest_14 : decode cX6_largest 14 = .ok (.putfield 64, 3) := by decide +kernel
theorem dX6_largest_17 : decode cX6_largest 17 = .ok (.iconst 0, 1) := by decide +kernel
theorem dX6_largest_18 : decode cX6_largest 18 = .ok (.istore_n 2, 1) := by decide +kernel
theorem dX6_largest_19 : decode cX6_largest 19 = .ok (.aload_n 0, 1) := by decide +kernel
theorem dX6_largest_20 : decode cX6_largest 20 = .ok (.getfield 64, 3) := by decide +kernel
theorem dX6_largest_23 : decode cX6_largest 23 = .ok (.ifCond .ne 18, 3) := by decide +kernel
theorem dX6_largest_26 : decode cX6_largest 26 = .ok (.aload_n 0, 1) := by decide +kernel
theorem dX6_largest_27 : decode cX6_largest 27 = .ok (.iload_n 2, 1) := by decide +kernel
theorem dX6_largest_28 : decode cX6_largest 28 = .ok (.invokevirtual 251, 3) := by decide +kernel
theorem dX6_largest_31 : decode cX6_largest 31 = .ok (.iload_n 1, 1) := by decide +kernel
theorem dX6_largest_32 : decode cX6_largest 32 = .ok (.if_icmp .eq 9, 3) := by decide +kernel
theorem dX6_largest_35 : decode cX6_largest 35 = .ok (.iinc 2 1, 3) := by decide +kernel
theorem dX6_largest_38 : decode cX6_largest 38 = .ok (.goto (-19), 3) := by decide +kernel
theorem dX6_largest_41 : decode cX6_largest 41 = .ok (.iload_n 2, 1) := by decide +kernel
theorem dX6_largest_42 : decode cX6_largest 42 = .ok (.ireturn, 1) := by decide +kernel
set_option maxHeartbeats 4000000 in
set_option maxRecDepth 100000 in
theorem X6_ahead (l : Launch) (κ : Kt) (σ0 : Gh) (this : Nat) (i : Int32) (t_this : zk σ0 this 20) (h0 : RI κ σ0 this) (h1 : 0 ≤ i.toInt) (h2 : i.toInt < ((zJ σ0 (kR κ this 1)) 4).toInt) : TC l yX6_ahead cX6_ahead 8 (some .int) 1 22 [.ref this, .int i] κ σ0 (tqi κ fE σ0 (fun (r : Int32) (τ : Gh) => (r.toInt = fsum ((zJ σ0 (kR κ this 1)) 4).toInt.toNat (bef (ad (zJ σ0 (kR κ this 1))) (ix i))))) := by
  refine TC.of fE (by decide +kernel) (Nat.le_of_ble_eq_true rfl) ?_
  intro p e s m below meth c ls hcs hK hX hT hl
  obtain ⟨hx, hb, hr, hml, hown, hg, hlocks, hin⟩ := hcs
  have hown : s.vm.findClass RX6 = some m.cls := hown
  have hl : lv_has ls 8 [(0, .ref this), (1, .int i)] := hl
  have hT0 := hT
  have n0 : (0 : Int32).toInt = 0 := by decide
  have n1 : (1 : Int32).toInt = 1 := by decide
  have n3 : (3 : Int32).toInt = 3 := by decide
  have i_lo := Int32.le_toInt i
  have i_hi := Int32.toInt_lt i
  generalize hQ9 : tQ _ _ _ _ _ _ = Q9
  obtain ⟨rW, erW⟩ : ∃ z, kR κ this 1 = z := ⟨_, rfl⟩
  have trW : zk σ0 rW 21 := by rw [← erW]; exact h0.1.2.1
  obtain ⟨rP, erP⟩ : ∃ z, kR κ this 5 = z := ⟨_, rfl⟩
  have trP : zk σ0 rP 25 := by rw [← erP]; exact h0.1.2.2.2.2
  have hB0 := h0.b
  rw [erW] at hB0
  have hW := h0.2.1
  rw [erW] at hW
  have hP := h0.2.2.1
  rw [erP] at hP
  have hrN : (rN σ0 this : Int) = (zI σ0 this 7).toInt := by unfold rN; omega
  try simp only [erW, erP] at h2
  refine lv_aload_n hx hb dX6_ahead_0 rfl (lv_at hl 0 rfl) ?_
  refine lv_iload_n hx hb dX6_ahead_1 rfl (lv_at hl 1 rfl) ?_
  refine lv_iconst (v := 3) hx hb dX6_ahead_2 (by decide) ?_
  have hTo := hT
  refine tVl (n := 2) (As := [.int i, .int 3]) (rest := []) hx hb hml hown hg hT hK hX (X6_of l κ σ0 this i 3  (hT.k t_this (by decide)) (by omega) (by omega) (by omega) (by omega)) (fun _ _ h => h) (mwV k1424 k1426 k54 k92 k1427) ⟨rfl, by decide, by decide, by decide +kernel⟩ ⟨(Nat.le_of_ble_eq_true rfl), (Nat.le_of_ble_eq_true rfl)⟩ (hT.o20 (hT.k t_this (by decide))) rfl rfl hl.1 rfl (Nat.le_of_ble_eq_true rfl) dX6_ahead_3 zroom.rf (fun x1 s2 H locs hφ hEs2 hT => ?_)
  have f3 := hφ
  have K4 : zI s2 this 7 = zI σ0 this 7 := hT.eI t_this (by decide) rfl rfl
  have K4n : (zI s2 this 7).toInt = (zI σ0 this 7).toInt := by rw [K4]
  have J5 : zJ s2 rW = zJ σ0 rW := funext fun k => hT.eJ trW (by decide) rfl rfl
  have J5n : (zJ s2 (kR κ this 1) 4).toInt = (zJ σ0 rW 4).toInt := by rw [erW, J5]
  have P6 : zI s2 rP = zI σ0 rP := funext fun k => hT.eI trP (by decide) rfl rfl
  try simp only [erW, erP, ix_0, ix_1, ix_2, ix_3, ix_4, ix_5, ix_6, ix_7, ix_8, ix_9, K4, J5, P6] at f3
  have hTo := hT
  refine tSl (n := 1) (As := [.long x1]) (rest := []) hx hb hml hown hg hT hK hX (X6_amount l κ s2 x1   ) (fun _ _ h => h) (mwS k1488 k1489 k92 k1490) ⟨rfl, by decide, by decide, by decide +kernel⟩ ⟨(Nat.le_of_ble_eq_true rfl), (Nat.le_of_ble_eq_true rfl)⟩ rfl hl.1 rfl (Nat.le_of_ble_eq_true rfl) dX6_ahead_6 zroom.rf (fun x7 s8 H locs hφ hEs8 hT => ?_)
  have f9 := hφ
  have K10 : zI s8 this 7 = zI σ0 this 7 := hT.eI t_this (by decide) rfl rfl
  have K10n : (zI s8 this 7).toInt = (zI σ0 this 7).toInt := by rw [K10]
  have J11 : zJ s8 rW = zJ σ0 rW := funext fun k => hT.eJ trW (by decide) rfl rfl
  have J11n : (zJ s8 (kR κ this 1) 4).toInt = (zJ σ0 rW 4).toInt := by rw [erW, J11]
  have P12 : zI s8 rP = zI σ0 rP := funext fun k => hT.eI trP (by decide) rfl rfl
  try simp only [erW, erP, ix_0, ix_1, ix_2, ix_3, ix_4, ix_5, ix_6, ix_7, ix_8, ix_9, K4, J5, P6, K10, J11, P12] at f9
  have yi := ad_of f3 f9
  refine lv_lstore_n (lv' := [(2, .long x7), (0, .ref this), (1, .int i)]) hx hb dX6_ahead_9 rfl hl (by decide) rfl (fun ls hl => ?_)
  refine lv_iconst (v := 0) hx hb dX6_ahead_10 (by decide) ?_
  refine lv_istore (lv' := [(4, .int 0), (2, .long x7), (0, .ref this), (1, .int i)]) hx hb dX6_ahead_11 hl (by decide) rfl (fun ls hl => ?_)
  refine lv_iconst (v := 0) hx hb dX6_ahead_13 (by decide) ?_
  refine lv_istore (lv' := [(5, .int 0), (4, .int 0), (2, .long x7), (0, .ref this), (1, .int i)]) hx hb dX6_ahead_14 hl (by decide) rfl (fun ls hl => ?_)
  have loop16 : ∀ (n9 : Nat) (k : Int32) (z : Int32) (H : Heap) (locs : List Loc) (sg : Gh) (ls : Array Slot), TS κ fE σ0 sg s H locs → (0 ≤ k.toInt) → (k.toInt ≤ (zJ σ0 rW 4).toInt) → (z.toInt = fsum (ix k) (bef (ad (zJ σ0 rW)) (ix i))) → (0 ≤ z.toInt) → (z.toInt ≤ k.toInt) → lv_has ls 8 [(5, .int k), (4, .int z), (2, .long x7), (0, .ref this), (1, .int i)] → ((zJ σ0 rW 4).toInt - k.toInt) < n9 → tW p l e 1 22 κ s m #[.ref this, .int i] below meth c H locs Q9 (F0 m 16 ls []) := by
    intro n9
    induction n9 with
    | zero =>
      intro k z H locs sg ls hT q1 q2 q3 q4 q5 hl hm9
      exfalso
      omega
    | succ n9 ih9 =>
      have ih16 := ih9
      clear ih9
      intro k z H locs s13 ls hT q1 q2 q3 q4 q5 hl hm9
      refine lv_iload hx hb dX6_ahead_16 (lv_at hl 0 rfl) ?_
      refine lv_aload_n hx hb dX6_ahead_18 rfl (lv_at hl 3 rfl) ?_
      have K14 : zI s13 this 7 = zI σ0 this 7 := hT.eI t_this (by decide) rfl rfl
      have K14n : (zI s13 this 7).toInt = (zI σ0 this 7).toInt := by rw [K14]
      have J15 : zJ s13 rW = zJ σ0 rW := funext fun k => hT.eJ trW (by decide) rfl rfl
      have J15n : (zJ s13 (kR κ this 1) 4).toInt = (zJ σ0 rW 4).toInt := by rw [erW, J15]
      have P16 : zI s13 rP = zI σ0 rP := funext fun k => hT.eI trP (by decide) rfl rfl
      have R17 : RI κ s13 this := h0.ext hT.2.2.1 ⟨rfl, rfl, fun _ => rfl, fun _ => rfl, fun _ => rfl, fun _ => rfl⟩
      have hTo := hT
      refine tVi (n := 0) (As := []) (rest := [.int k]) hx hb hml hown hg hT hK hX (X6_steps l κ s13 this  (hT.k t_this (by decide)) R17) (fun _ _ h => h) (mwV k1416 k1418 k52 k92 k1419) ⟨rfl, by decide, by decide, by decide +kernel⟩ ⟨(Nat.le_of_ble_eq_true rfl), (Nat.le_of_ble_eq_true rfl)⟩ (hT.o20 (hT.k t_this (by decide))) rfl rfl hl.1 rfl (Nat.le_of_ble_eq_true rfl) dX6_ahead_19 zroom.rf (fun x18 s19 H locs hφ hEs19 hT => ?_)
      have f20 := hφ
      have K21 : zI s19 this 7 = zI σ0 this 7 := hT.eI t_this (by decide) rfl rfl
      have K21n : (zI s19 this 7).toInt = (zI σ0 this 7).toInt := by rw [K21]
      have J22 : zJ s19 rW = zJ σ0 rW := funext fun k => hT.eJ trW (by decide) rfl rfl
      have J22n : (zJ s19 (kR κ this 1) 4).toInt = (zJ σ0 rW 4).toInt := by rw [erW, J22]
      have P23 : zI s19 rP = zI σ0 rP := funext fun k => hT.eI trP (by decide) rfl rfl
      try simp only [erW, erP, ix_0, ix_1, ix_2, ix_3, ix_4, ix_5, ix_6, ix_7, ix_8, ix_9, K14, J15, P16, K21, J22, P23] at f20
      refine lv_icmp_ge (tgt := 73) hx hb dX6_ahead_22 (by decide) (fun c9 => ?_) (fun c9 => ?_)
      · have c1 := gi_le c9
        refine lv_iload hx hb dX6_ahead_73 (lv_at hl 1 rfl) ?_
        have b9 : ix k = (zJ σ0 rW 4).toInt.toNat := by unfold ix; omega
        rw [b9] at q3
        subst hQ9
        exact t_i hx hb hr hlocks hT (by simp only [erW]; omega) dX6_ahead_75
      · have c2 := gi_nle c9
        refine lv_aload_n hx hb dX6_ahead_25 rfl (lv_at hl 3 rfl) ?_
        refine lv_iload hx hb dX6_ahead_26 (lv_at hl 0 rfl) ?_
        refine lv_iconst (v := 3) hx hb dX6_ahead_28 (by decide) ?_
        have hTo := hT
        refine tVl (n := 2) (As := [.int k, .int 3]) (rest := []) hx hb hml hown hg hT hK hX (X6_of l κ s19 this k 3  (hT.k t_this (by decide)) (by omega) (by omega) (by omega) (by omega)) (fun _ _ h => h) (mwV k1424 k1426 k54 k92 k1427) ⟨rfl, by decide, by decide, by decide +kernel⟩ ⟨(Nat.le_of_ble_eq_true rfl), (Nat.le_of_ble_eq_true rfl)⟩ (hT.o20 (hT.k t_this (by decide))) rfl rfl hl.1 rfl (Nat.le_of_ble_eq_true rfl) dX6_ahead_29 zroom.rf (fun x24 s25 H locs hφ hEs25 hT => ?_)
        have f26 := hφ
        have K27 : zI s25 this 7 = zI σ0 this 7 := hT.eI t_this (by decide) rfl rfl
        have K27n : (zI s25 this 7).toInt = (zI σ0 this 7).toInt := by rw [K27]
        have J28 : zJ s25 rW = zJ σ0 rW := funext fun k => hT.eJ trW (by decide) rfl rfl
        have J28n : (zJ s25 (kR κ this 1) 4).toInt = (zJ σ0 rW 4).toInt := by rw [erW, J28]
        have P29 : zI s25 rP = zI σ0 rP := funext fun k => hT.eI trP (by decide) rfl rfl
        try simp only [erW, erP, ix_0, ix_1, ix_2, ix_3, ix_4, ix_5, ix_6, ix_7, ix_8, ix_9, K21, J22, P23, K27, J28, P29] at f26
        have hTo := hT
        refine tSl (n := 1) (As := [.long x24]) (rest := []) hx hb hml hown hg hT hK hX (X6_amount l κ s25 x24   ) (fun _ _ h => h) (mwS k1488 k1489 k92 k1490) ⟨rfl, by decide, by decide, by decide +kernel⟩ ⟨(Nat.le_of_ble_eq_true rfl), (Nat.le_of_ble_eq_true rfl)⟩ rfl hl.1 rfl (Nat.le_of_ble_eq_true rfl) dX6_ahead_32 zroom.rf (fun x30 s31 H locs hφ hEs31 hT => ?_)
        have f32 := hφ
        have K33 : zI s31 this 7 = zI σ0 this 7 := hT.eI t_this (by decide) rfl rfl
        have K33n : (zI s31 this 7).toInt = (zI σ0 this 7).toInt := by rw [K33]
        have J34 : zJ s31 rW = zJ σ0 rW := funext fun k => hT.eJ trW (by decide) rfl rfl
        have J34n : (zJ s31 (kR κ this 1) 4).toInt = (zJ σ0 rW 4).toInt := by rw [erW, J34]
        have P35 : zI s31 rP = zI σ0 rP := funext fun k => hT.eI trP (by decide) rfl rfl
        try simp only [erW, erP, ix_0, ix_1, ix_2, ix_3, ix_4, ix_5, ix_6, ix_7, ix_8, ix_9, K27, J28, P29, K33, J34, P35] at f32
        have ya := ad_of f26 f32
        have i5 : (ix k : Int) = k.toInt := by unfold ix; omega
        have i6 : (ix i : Int) = i.toInt := by unfold ix; omega
        have b1 : ad (zJ σ0 rW) (ix i) < ad (zJ σ0 rW) (ix k) ∨ (ad (zJ σ0 rW) (ix k) = ad (zJ σ0 rW) (ix i) ∧ ix k < ix i) → fsum (ix k + 1) (bef (ad (zJ σ0 rW)) (ix i)) = fsum (ix k) (bef (ad (zJ σ0 rW)) (ix i)) + 1 := fun q9 => by rw [fsum]; unfold bef; rw [if_pos q9]
        have b2 : ¬ (ad (zJ σ0 rW) (ix i) < ad (zJ σ0 rW) (ix k) ∨ (ad (zJ σ0 rW) (ix k) = ad (zJ σ0 rW) (ix i) ∧ ix k < ix i)) → fsum (ix k + 1) (bef (ad (zJ σ0 rW)) (ix i)) = fsum (ix k) (bef (ad (zJ σ0 rW)) (ix i)) := fun q9 => by rw [fsum]; unfold bef; rw [if_neg q9]; omega
        refine lv_lstore (lv' := [(6, .long x30), (5, .int k), (4, .int z), (2, .long x7), (0, .ref this), (1, .int i)]) hx hb dX6_ahead_35 hl (by decide) rfl (fun ls hl => ?_)
        refine lv_iload hx hb dX6_ahead_37 (lv_at hl 2 rfl) ?_
        refine lv_lload hx hb dX6_ahead_39 (lv_at hl 0 rfl) ?_
        refine lv_lload_n hx hb dX6_ahead_41 rfl (lv_at hl 3 rfl) ?_
        refine W.lcmp hx hb dX6_ahead_42 ?_
        refine lv_if_gt (tgt := 59) hx hb dX6_ahead_43 (by decide) (fun c9 => ?_) (fun c9 => ?_)
        · have c3 := gl_gt c9
          refine lv_iconst (v := 1) hx hb dX6_ahead_59 (by decide) ?_
          refine lv_goto (tgt := 64) hx hb dX6_ahead_60 (by decide) ?_
          refine lv_iadd hx hb dX6_ahead_64 ?_
          first | refine g_add (by omega) (by omega) (fun t36 ht36 => ?_) | refine lv_topi (fun t36 ht36 => ?_)
          refine lv_istore (lv' := [(4, .int t36), (6, .long x30), (5, .int k), (2, .long x7), (0, .ref this), (1, .int i)]) hx hb dX6_ahead_65 hl (by decide) rfl (fun ls hl => ?_)
          obtain ⟨t37, qt37⟩ : ∃ zz9 : Int32, k + Int32.ofInt 1 = zz9 := ⟨_, rfl⟩
          refine lv_iinc (v := t37) (lv' := [(5, .int t37), (4, .int t36), (6, .long x30), (2, .long x7), (0, .ref this), (1, .int i)]) hx hb dX6_ahead_67 hl (k := 2) rfl qt37 (by decide) rfl (fun ls hl => ?_)
          have ht37 : t37.toInt = k.toInt + 1 := by rw [← qt37]; exact v_addi rfl (show (Int32.ofInt 1).toInt = 1 from by decide) (by omega) (by omega)
          refine lv_goto (tgt := 16) hx hb dX6_ahead_70 (by decide) ?_
          exact ih16 t37 t36 _ _ _ _ hT  (by omega) (by omega) (by rw [show ix t37 = ix k + 1 from by unfold ix; omega]; omega) (by omega) (by omega) (lv_sub hl [0, 1, 3, 4, 5] rfl) (by omega)
        · have c4 := gl_ngt c9
          refine lv_lload hx hb dX6_ahead_46 (lv_at hl 0 rfl) ?_
          refine lv_lload_n hx hb dX6_ahead_48 rfl (lv_at hl 3 rfl) ?_
          refine W.lcmp hx hb dX6_ahead_49 ?_
          refine lv_if_ne (tgt := 63) hx hb dX6_ahead_50 (by decide) (fun c9 => ?_) (fun c9 => ?_)
          · have c5 := gl_ne c9
            refine lv_iconst (v := 0) hx hb dX6_ahead_63 (by decide) ?_
            refine lv_iadd hx hb dX6_ahead_64 ?_
            first | refine g_add (by omega) (by omega) (fun t38 ht38 => ?_) | refine lv_topi (fun t38 ht38 => ?_)
            refine lv_istore (lv' := [(4, .int t38), (6, .long x30), (5, .int k), (2, .long x7), (0, .ref this), (1, .int i)]) hx hb dX6_ahead_65 hl (by decide) rfl (fun ls hl => ?_)
            obtain ⟨t39, qt39⟩ : ∃ zz9 : Int32, k + Int32.ofInt 1 = zz9 := ⟨_, rfl⟩
            refine lv_iinc (v := t39) (lv' := [(5, .int t39), (4, .int t38), (6, .long x30), (2, .long x7), (0, .ref this), (1, .int i)]) hx hb dX6_ahead_67 hl (k := 2) rfl qt39 (by decide) rfl (fun ls hl => ?_)
            have ht39 : t39.toInt = k.toInt + 1 := by rw [← qt39]; exact v_addi rfl (show (Int32.ofInt 1).toInt = 1 from by decide) (by omega) (by omega)
            refine lv_goto (tgt := 16) hx hb dX6_ahead_70 (by decide) ?_
            exact ih16 t39 t38 _ _ _ _ hT  (by omega) (by omega) (by rw [show ix t39 = ix k + 1 from by unfold ix; omega]; omega) (by omega) (by omega) (lv_sub hl [0, 1, 3, 4, 5] rfl) (by omega)
          · have c6 := gl_eq c9
            refine lv_iload hx hb dX6_ahead_53 (lv_at hl 1 rfl) ?_
            refine lv_iload_n hx hb dX6_ahead_55 rfl (lv_at hl 5 rfl) ?_
            refine lv_icmp_ge (tgt := 63) hx hb dX6_ahead_56 (by decide) (fun c9 => ?_) (fun c9 => ?_)
            · have c7 := gi_le c9
              refine lv_iconst (v := 0) hx hb dX6_ahead_63 (by decide) ?_
              refine lv_iadd hx hb dX6_ahead_64 ?_
              first | refine g_add (by omega) (by omega) (fun t40 ht40 => ?_) | refine lv_topi (fun t40 ht40 => ?_)
              refine lv_istore (lv' := [(4, .int t40), (6, .long x30), (5, .int k), (2, .long x7), (0, .ref this), (1, .int i)]) hx hb dX6_ahead_65 hl (by decide) rfl (fun ls hl => ?_)
              obtain ⟨t41, qt41⟩ : ∃ zz9 : Int32, k + Int32.ofInt 1 = zz9 := ⟨_, rfl⟩
              refine lv_iinc (v := t41) (lv' := [(5, .int t41), (4, .int t40), (6, .long x30), (2, .long x7), (0, .ref this), (1, .int i)]) hx hb dX6_ahead_67 hl (k := 2) rfl qt41 (by decide) rfl (fun ls hl => ?_)
              have ht41 : t41.toInt = k.toInt + 1 := by rw [← qt41]; exact v_addi rfl (show (Int32.ofInt 1).toInt = 1 from by decide) (by omega) (by omega)
              refine lv_goto (tgt := 16) hx hb dX6_ahead_70 (by decide) ?_
              exact ih16 t41 t40 _ _ _ _ hT  (by omega) (by omega) (by rw [show ix t41 = ix k + 1 from by unfold ix; omega]; omega) (by omega) (by omega) (lv_sub hl [0, 1, 3, 4, 5] rfl) (by omega)
            · have c8 := gi_nle c9
              refine lv_iconst (v := 1) hx hb dX6_ahead_59 (by decide) ?_
              refine lv_goto (tgt := 64) hx hb dX6_ahead_60 (by decide) ?_
              refine lv_iadd hx hb dX6_ahead_64 ?_
              first | refine g_add (by omega) (by omega) (fun t42 ht42 => ?_) | refine lv_topi (fun t42 ht42 => ?_)
              refine lv_istore (lv' := [(4, .int t42), (6, .long x30), (5, .int k), (2, .long x7), (0, .ref this), (1, .int i)]) hx hb dX6_ahead_65 hl (by decide) rfl (fun ls hl => ?_)
              obtain ⟨t43, qt43⟩ : ∃ zz9 : Int32, k + Int32.ofInt 1 = zz9 := ⟨_, rfl⟩
              refine lv_iinc (v := t43) (lv' := [(5, .int t43), (4, .int t42), (6, .long x30), (2, .long x7), (0, .ref this), (1, .int i)]) hx hb dX6_ahead_67 hl (k := 2) rfl qt43 (by decide) rfl (fun ls hl => ?_)
              have ht43 : t43.toInt = k.toInt + 1 := by rw [← qt43]; exact v_addi rfl (show (Int32.ofInt 1).toInt = 1 from by decide) (by omega) (by omega)
              refine lv_goto (tgt := 16) hx hb dX6_ahead_70 (by decide) ?_
              exact ih16 t43 t42 _ _ _ _ hT  (by omega) (by omega) (by rw [show ix t43 = ix k + 1 from by unfold ix; omega]; omega) (by omega) (by omega) (lv_sub hl [0, 1, 3, 4, 5] rfl) (by omega)
  exact loop16 (((zJ σ0 rW 4).toInt - (0 : Int32).toInt).toNat + 1) 0 0 _ _ _ _ hT  (by omega) (by omega) (by rw [ix_0]; rfl) (by omega) (by omega) hl (by omega)
set_option maxHeartbeats 4000000 in
set_option maxRecDepth 100000 in
theorem X6_largest (l : Launch) (κ : Kt) (σ0 : Gh) (this : Nat) (i : Int32) (t_this : zk σ0 this 20) (h0 : RI κ σ0 this) : TC l yX6_largest cX6_largest 3 (some .int) 2 49 [.ref this, .int i] κ σ0 (tqi κ gR σ0 (fun (r : Int32) (τ : Gh) => True)) := by
  refine TC.of gR (by decide +kernel) (Nat.le_of_ble_eq_true rfl) ?_
  intro p e s m below meth c ls hcs hK hX hT hl
  obtain ⟨hx, hb, hr, hml, hown, hg, hlocks, hin⟩ := hcs
  have hown : s.vm.findClass RX6 = some m.cls := hown
  have hl : lv_has ls 3 [(0, .ref this), (1, .int i)] := hl
  have hT0 := hT
  have n0 : (0 : Int32).toInt = 0 := by decide
  have n1 : (1 : Int32).toInt = 1 := by decide
  have i_lo := Int32.le_toInt i
  have i_hi := Int32.toInt_lt i
  generalize hQ9 : tQ _ _ _ _ _ _ = Q9
  obtain ⟨rW, erW⟩ : ∃ z, kR κ this 1 = z := ⟨_, rfl⟩
  have trW : zk σ0 rW 21 := by rw [← erW]; exact h0.1.2.1
  obtain ⟨rP, erP⟩ : ∃ z, kR κ this 5 = z := ⟨_, rfl⟩
  have trP : zk σ0 rP 25 := by rw [← erP]; exact h0.1.2.2.2.2
  have hB0 := h0.b
  rw [erW] at hB0
  have hW := h0.2.1
  rw [erW] at hW
  have hP := h0.2.2.1
  rw [erP] at hP
  have hrN : (rN σ0 this : Int) = (zI σ0 this 7).toInt := by unfold rN; omega
  refine lv_aload_n hx hb dX6_largest_0 rfl (lv_at hl 0 rfl) ?_
  refine lv_aload_n hx hb dX6_largest_1 rfl (lv_at hl 0 rfl) ?_
  refine lv_iload_n hx hb dX6_largest_2 rfl (lv_at hl 1 rfl) ?_
  have hTo := hT
  refine tVi (n := 1) (As := [.int i]) (rest := [.ref this]) hx hb hml hown hg hT hK hX (X6_isStep l κ σ0 this i  (hT.k t_this (by decide)) h0) sub_fE_gR (mwV k1461 k1463 k59 k92 k1464) ⟨rfl, by decide, by decide, by decide +kernel⟩ ⟨(Nat.le_of_ble_eq_true rfl), (Nat.le_of_ble_eq_true rfl)⟩ (hT.o20 (hT.k t_this (by decide))) rfl rfl hl.1 rfl (Nat.le_of_ble_eq_true rfl) dX6_largest_3 zroom.rf (fun x1 s2 H locs hφ hEs2 hT => ?_)
  obtain ⟨f3, f4⟩ := hφ
  have K5 : zI s2 this 7 = zI σ0 this 7 := hT.eI t_this (by decide) rfl rfl
  have K5n : (zI s2 this 7).toInt = (zI σ0 this 7).toInt := by rw [K5]
  have J6 : zJ s2 rW = zJ σ0 rW := funext fun k => hT.eJ trW (by decide) rfl rfl
  have J6n : (zJ s2 (kR κ this 1) 4).toInt = (zJ σ0 rW 4).toInt := by rw [erW, J6]
  have P7 : zI s2 rP = zI σ0 rP := funext fun k => hT.eI trP (by decide) rfl rfl
  try simp only [erW, erP, ix_0, ix_1, ix_2, ix_3, ix_4, ix_5, ix_6, ix_7, ix_8, ix_9, K5, J6, P7] at f3
  refine lv_if_eq (tgt := 13) hx hb dX6_largest_6 (by decide) (fun c9 => ?_) (fun c9 => ?_)
  · have c1 := gi_eq c9
    refine lv_iconst (v := 1) hx hb dX6_largest_13 (by decide) ?_
    have hTo := hT
    refine pf20_0 hx hb hg hown hK hT (hT.k t_this (by decide)) rfl (hg _ k1219) dX6_largest_14 (fun H locs s8 hus8 hT => ?_)
    have e9 : zI s8 this 0 = 1 := zput_at hus8
    refine lv_iconst (v := 0) hx hb dX6_largest_17 (by decide) ?_
    refine lv_istore_n (lv' := [(2, .int 0), (0, .ref this), (1, .int i)]) hx hb dX6_largest_18 rfl hl (by decide) rfl (fun ls hl => ?_)
    have loop19 : ∀ (n9 : Nat) (k : Int32) (H : Heap) (locs : List Loc) (sg : Gh) (ls : Array Slot), TS κ gR σ0 sg s H locs → (zI sg this 0 = 1) → (0 ≤ k.toInt) → (k.toInt ≤ 46) → ((1 : Int32).toInt = 0 → ∃ j : Nat, k.toInt ≤ j ∧ (j : Int) < (zJ σ0 rW 4).toInt ∧ fsum (zJ σ0 rW 4).toInt.toNat (bef (ad (zJ σ0 rW)) j) = i.toInt) → lv_has ls 3 [(2, .int k), (0, .ref this), (1, .int i)] → (47 - k.toInt) < n9 → tW p l e 2 49 κ s m #[.ref this, .int i] below meth c H locs Q9 (F0 m 19 ls []) := by
      intro n9
      induction n9 with
      | zero =>
        intro k H locs sg ls hT kthis_0 q1 q2 q3 hl hm9
        exfalso
        omega
      | succ n9 ih9 =>
        have ih19 := ih9
        clear ih9
        intro k H locs s10 ls hT kthis_0 q1 q2 q3 hl hm9
        refine lv_aload_n hx hb dX6_largest_19 rfl (lv_at hl 1 rfl) ?_
        refine va_get (D := κ.1) (ci := 6) (v := .int (zI s10 this 0)) (C := RX6) (T := TX6) (N := 27) hx hb hg inX6 hown hK (hT.o20 (hT.k t_this (by decide))).one 0 rfl rfl 0 (by decide) (hg _ k1219) (fun _ h9 => h9) rfl dX6_largest_20 ?_
        rw [kthis_0]
        refine lv_if_ne (tgt := 41) hx hb dX6_largest_23 (by decide) (fun _ => ?_) (fun c9 => absurd c9 (by decide))
        refine lv_iload_n hx hb dX6_largest_41 rfl (lv_at hl 0 rfl) ?_
        subst hQ9
        exact t_i hx hb hr hlocks hT trivial dX6_largest_42
    exact loop19 ((47 - (0 : Int32).toInt).toNat + 1) 0 _ _ _ _ hT e9 (by omega) (by omega) (fun q9 => by obtain ⟨j, j1, j2⟩ := rk_all (n := (zJ σ0 rW 4).toInt.toNat) (a := ad (zJ σ0 rW)) (r := i.toInt) (by omega) (by omega); exact ⟨j, by omega, by omega, j2⟩) hl (by omega)
  · have c2 := gi_ne c9
    refine lv_iconst (v := 0) hx hb dX6_largest_9 (by decide) ?_
    refine lv_goto (tgt := 14) hx hb dX6_largest_10 (by decide) ?_
    have hTo := hT
    refine pf20_0 hx hb hg hown hK hT (hT.k t_this (by decide)) rfl (hg _ k1219) dX6_largest_14 (fun H locs s11 hus11 hT => ?_)
    have e12 : zI s11 this 0 = 0 := zput_at hus11
    refine lv_iconst (v := 0) hx hb dX6_largest_17 (by decide) ?_
    refine lv_istore_n (lv' := [(2, .int 0), (0, .ref this), (1, .int i)]) hx hb dX6_largest_18 rfl hl (by decide) rfl (fun ls hl => ?_)
    have loop19 : ∀ (n9 : Nat) (k : Int32) (H : Heap) (locs : List Loc) (sg : Gh) (ls : Array Slot), TS κ gR σ0 sg s H locs → (zI sg this 0 = 0) → (0 ≤ k.toInt) → (k.toInt ≤ 46) → ((0 : Int32).toInt = 0 → ∃ j : Nat, k.toInt ≤ j ∧ (j : Int) < (zJ σ0 rW 4).toInt ∧ fsum (zJ σ0 rW 4).toInt.toNat (bef (ad (zJ σ0 rW)) j) = i.toInt) → lv_has ls 3 [(2, .int k), (0, .ref this), (1, .int i)] → (47 - k.toInt) < n9 → tW p l e 2 49 κ s m #[.ref this, .int i] below meth c H locs Q9 (F0 m 19 ls []) := by
      intro n9
      induction n9 with
      | zero =>
        intro k H locs sg ls hT kthis_0 q1 q2 q3 hl hm9
        exfalso
        omega
      | succ n9 ih9 =>
        have ih19 := ih9
        clear ih9
        intro k H locs s13 ls hT kthis_0 q1 q2 q3 hl hm9
        refine lv_aload_n hx hb dX6_largest_19 rfl (lv_at hl 1 rfl) ?_
        refine va_get (D := κ.1) (ci := 6) (v := .int (zI s13 this 0)) (C := RX6) (T := TX6) (N := 27) hx hb hg inX6 hown hK (hT.o20 (hT.k t_this (by decide))).one 0 rfl rfl 0 (by decide) (hg _ k1219) (fun _ h9 => h9) rfl dX6_largest_20 ?_
        rw [kthis_0]
        refine lv_if_ne (tgt := 41) hx hb dX6_largest_23 (by decide) (fun c9 => absurd (by decide) c9) (fun _ => ?_)
        obtain ⟨j9, y9, x9, z9⟩ := q3 (by omega)
        refine lv_aload_n hx hb dX6_largest_26 rfl (lv_at hl 1 rfl) ?_
        refine lv_iload_n hx hb dX6_largest_27 rfl (lv_at hl 0 rfl) ?_
        have K14 : zI s13 this 7 = zI σ0 this 7 := hT.eI t_this (by decide) rfl rfl
        have K14n : (zI s13 this 7).toInt = (zI σ0 this 7).toInt := by rw [K14]
        have J15 : zJ s13 rW = zJ σ0 rW := funext fun k => hT.eJ trW (by decide) rfl rfl
        have J15n : (zJ s13 (kR κ this 1) 4).toInt = (zJ σ0 rW 4).toInt := by rw [erW, J15]
        have P16 : zI s13 rP = zI σ0 rP := funext fun k => hT.eI trP (by decide) rfl rfl
        have R17 : RI κ s13 this := h0.ext hT.2.2.1 ⟨rfl, rfl, fun _ => rfl, fun _ => rfl, fun _ => rfl, fun _ => rfl⟩
        have hTo := hT
        refine tVi (n := 1) (As := [.int k]) (rest := []) hx hb hml hown hg hT hK hX (X6_ahead l κ s13 this k  (hT.k t_this (by decide)) R17 (by omega) (by omega)) sub_fE_gR (mwV k1515 k1517 k62 k92 k1518) ⟨rfl, by decide, by decide, by decide +kernel⟩ ⟨(Nat.le_of_ble_eq_true rfl), (Nat.le_of_ble_eq_true rfl)⟩ (hT.o20 (hT.k t_this (by decide))) rfl rfl hl.1 rfl (Nat.le_of_ble_eq_true rfl) dX6_largest_28 zroom.rf (fun x18 s19 H locs hφ hEs19 hT => ?_)
        have kthis_0 : zI s19 this 0 = 0 := ((hTo.k t_this (by decide)).eI hEs19 (by decide) rfl).trans kthis_0
        have f20 := hφ
        have K21 : zI s19 this 7 = zI σ0 this 7 := hT.eI t_this (by decide) rfl rfl
        have K21n : (zI s19 this 7).toInt = (zI σ0 this 7).toInt := by rw [K21]
        have J22 : zJ s19 rW = zJ σ0 rW := funext fun k => hT.eJ trW (by decide) rfl rfl
        have J22n : (zJ s19 (kR κ this 1) 4).toInt = (zJ σ0 rW 4).toInt := by rw [erW, J22]
        have P23 : zI s19 rP = zI σ0 rP := funext fun k => hT.eI trP (by decide) rfl rfl
        try simp only [erW, erP, ix_0, ix_1, ix_2, ix_3, ix_4, ix_5, ix_6, ix_7, ix_8, ix_9, K14, J15, P16, K21, J22, P23] at f20
        have d1 : k.toInt = j9 → fsum (zJ σ0 rW 4).toInt.toNat (bef (ad (zJ σ0 rW)) (ix k)) = i.toInt := fun q9 => by rw [show ix k = j9 from by unfold ix; omega]; exact z9
        refine lv_iload_n hx hb dX6_largest_31 rfl (lv_at hl 2 rfl) ?_
        refine lv_icmp_eq (tgt := 41) hx hb dX6_largest_32 (by decide) (fun c9 => ?_) (fun c9 => ?_)
        · have c3 := gi_eq c9
          refine lv_iload_n hx hb dX6_largest_41 rfl (lv_at hl 0 rfl) ?_
          subst hQ9
          exact t_i hx hb hr hlocks hT trivial dX6_largest_42
        · have c4 := gi_ne c9
          obtain ⟨t24, qt24⟩ : ∃ zz9 : Int32, k + Int32.ofInt 1 = zz9 := ⟨_, rfl⟩
          refine lv_iinc (v := t24) (lv' := [(2, .int t24), (0, .ref this), (1, .int i)]) hx hb dX6_largest_35 hl (k := 0) rfl qt24 (by decide) rfl (fun ls hl => ?_)
          have ht24 : t24.toInt = k.toInt + 1 := by rw [← qt24]; exact v_addi rfl (show (Int32.ofInt 1).toInt = 1 from by decide) (by omega) (by omega)
          refine lv_goto (tgt := 19) hx hb dX6_largest_38 (by decide) ?_
          exact ih19 t24 _ _ _ _ hT kthis_0 (by omega) (by omega) (fun _ => ⟨j9, by omega, by omega, z9⟩) hl (by omega)
    exact loop19 ((47 - (0 : Int32).toInt).toNat + 1) 0 _ _ _ _ hT e12 (by omega) (by omega) (fun q9 => by obtain ⟨j, j1, j2⟩ := rk_all (n := (zJ σ0 rW 4).toInt.toNat) (a := ad (zJ σ0 rW)) (r := i.toInt) (by omega) (by omega); exact ⟨j, by omega, by omega, j2⟩) hl (by omega)

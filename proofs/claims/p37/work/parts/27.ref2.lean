/-! The reference over any state: neighbours -/
theorem k57 : Cond.selects RX6 yX6_isSample yX6_isSample ∈ GW := gm 57 (by decide +kernel) (by decide +kernel)
theorem k1440 : Cond.methodLink RX6 205 yX6_isSample ∈ GW := gm 1440 (by decide +kernel) (by decide +kernel)
theorem k1442 : Cond.instanceMethod yX6_isSample ∈ GW := gm 1442 (by decide +kernel) (by decide +kernel)
theorem k1443 : Cond.code yX6_isSample cX6_isSample 2 (some .boolean) ∈ GW := gm 1443 (by decide +kernel) (by decide +kernel)
theorem dX6_beside_0 : decode cX6_beside 0 = .ok (.iload_n 1, 1) := by decide +kernel
theorem dX6_beside_1 : decode cX6_beside 1 = .ok (.iload_n 2, 1) := by decide +kernel
theorem dX6_beside_2 : decode cX6_beside 2 = .ok (.iadd, 1) := by decide +kernel
theorem dX6_beside_3 : decode cX6_beside 3 = .ok (.istore_n 3, 1) := by decide +kernel
theorem dX6_beside_4 : decode cX6_beside 4 = .ok (.iload_n 3, 1) := by decide +kernel
theorem dX6_beside_5 : decode cX6_beside 5 = .ok (.ifCond .lt 26, 3) := by decide +kernel
theorem dX6_beside_8 : decode cX6_beside 8 = .ok (.iload_n 3, 1) := by decide +kernel
theorem dX6_beside_9 : decode cX6_beside 9 = .ok (.aload_n 0, 1) := by decide +kernel
theorem dX6_beside_10 : decode cX6_beside 10 = .ok (.getfield 185, 3) := by decide +kernel
theorem dX6_beside_13 : decode cX6_beside 13 = .ok (.if_icmp .ge 18, 3) := by decide +kernel
theorem dX6_beside_16 : decode cX6_beside 16 = .ok (.aload_n 0, 1) := by decide +kernel
theorem dX6_beside_17 : decode cX6_beside 17 = .ok (.iload_n 3, 1) := by decide +kernel
theorem dX6_beside_18 : decode cX6_beside 18 = .ok (.invokevirtual 202, 3) := by decide +kernel
theorem dX6_beside_21 : decode cX6_beside 21 = .ok (.ifCond .ne 10, 3) := by decide +kernel
theorem dX6_beside_24 : decode cX6_beside 24 = .ok (.iload_n 3, 1) := by decide +kernel
theorem dX6_beside_25 : decode cX6_beside 25 = .ok (.iload_n 2, 1) := by decide +kernel
theorem dX6_beside_26 : decode cX6_beside 26 = .ok (.iadd, 1) := by decide +kernel
theorem dX6_beside_27 : decode cX6_beside 27 = .ok (.istore_n 3, 1) := by decide +kernel
theorem dX6_beside_28 : decode cX6_beside 28 = .ok (.goto (-24), 3) := by decide +kernel
theorem dX6_beside_31 : decode cX6_beside 31 = .ok (.aload_n 0, 1) := by decide +kernel
theorem dX6_beside_32 : decode cX6_beside 32 = .ok (.iload_n 3, 1) := by decide +kernel
theorem dX6_beside_33 : decode cX6_beside 33 = .ok (.invokevirtual 205, 3) := by decide +kernel
theorem dX6_beside_36 : decode cX6_beside 36 = .ok (.ifCond .eq 7, 3) := by decide +kernel
theorem dX6_beside_39 : decode cX6_beside 39 = .ok (.iload_n 3, 1) := by decide +kernel
theorem dX6_beside_40 : decode cX6_beside 40 = .ok (.goto 4, 3) := by decide +kernel
theorem dX6_beside_43 : decode cX6_beside 43 = .ok (.iconst (-1), 1) := by decide +kernel
theorem dX6_beside_44 : decode cX6_beside 44 = .ok (.ireturn, 1) := by decide +kernel
set_option maxHeartbeats 4000000 in
set_option maxRecDepth 100000 in
theorem X6_besideR (l : Launch) (κ : Kt) (σ0 : Gh) (this : Nat) (i : Int32) (d : Int32) (t_this : zk σ0 this 20) (h0 : RI κ σ0 this) (h1 : -1 ≤ i.toInt) (h2 : i.toInt ≤ 48) (h3 : d.toInt = 1) : TC l yX6_beside cX6_beside 4 (some .int) 2 46 [.ref this, .int i, .int d] κ σ0 (tqi κ fE σ0 (fun (r : Int32) (τ : Gh) => ((r.toInt = -1 ∧ (zI σ0 this 7).toInt - 1 ≤ i.toInt) ∨ (0 ≤ r.toInt ∧ r.toInt < (zI σ0 this 7).toInt ∧ rlf (zJ σ0 (kR κ this 1)) (ix r) = -1 ∧ i.toInt < r.toInt)))) := by
  refine TC.of fE (by decide +kernel) (Nat.le_of_ble_eq_true rfl) ?_
  intro p e s m below meth c ls hcs hK hX hT hl
  obtain ⟨hx, hb, hr, hml, hown, hg, hlocks, hin⟩ := hcs
  have hown : s.vm.findClass RX6 = some m.cls := hown
  have hl : lv_has ls 4 [(0, .ref this), (1, .int i), (2, .int d)] := hl
  have hT0 := hT
  have nm1 : ((-1) : Int32).toInt = (-1) := by decide
  have n0 : (0 : Int32).toInt = 0 := by decide
  have i_lo := Int32.le_toInt i
  have i_hi := Int32.toInt_lt i
  have d_lo := Int32.le_toInt d
  have d_hi := Int32.toInt_lt d
  generalize hQ9 : tQ _ _ _ _ _ _ = Q9
  obtain ⟨rW, erW⟩ : ∃ z, kR κ this 1 = z := ⟨_, rfl⟩
  have trW : zk σ0 rW 21 := by rw [← erW]; exact h0.1.2.1
  obtain ⟨rP, erP⟩ : ∃ z, kR κ this 5 = z := ⟨_, rfl⟩
  have trP : zk σ0 rP 25 := by rw [← erP]; exact h0.1.2.2.2.2
  have hB0 := h0.b
  rw [erW] at hB0
  have hW := h0.2.1
  rw [erW] at hW
  have hP := h0.2.2.1
  rw [erP] at hP
  have hrN : (rN σ0 this : Int) = (zI σ0 this 7).toInt := by unfold rN; omega
  refine lv_iload_n hx hb dX6_beside_0 rfl (lv_at hl 1 rfl) ?_
  refine lv_iload_n hx hb dX6_beside_1 rfl (lv_at hl 2 rfl) ?_
  refine lv_iadd hx hb dX6_beside_2 ?_
  first | refine g_add (by omega) (by omega) (fun t1 ht1 => ?_) | refine lv_topi (fun t1 ht1 => ?_)
  refine lv_istore_n (lv' := [(3, .int t1), (0, .ref this), (1, .int i), (2, .int d)]) hx hb dX6_beside_3 rfl hl (by decide) rfl (fun ls hl => ?_)
  have loop4 : ∀ (n9 : Nat) (to : Int32) (H : Heap) (locs : List Loc) (sg : Gh) (ls : Array Slot), TS κ fE σ0 sg s H locs → (i.toInt < to.toInt) → (to.toInt ≤ 49) → (to.toInt ≤ (zI σ0 this 7).toInt - 1 ∨ (zI σ0 this 7).toInt - 1 ≤ i.toInt) → lv_has ls 4 [(3, .int to), (0, .ref this), (1, .int i), (2, .int d)] → (49 - to.toInt) < n9 → tW p l e 2 46 κ s m #[.ref this, .int i, .int d] below meth c H locs Q9 (F0 m 4 ls []) := by
    intro n9
    induction n9 with
    | zero =>
      intro to H locs sg ls hT q1 q3 q2 hl hm9
      exfalso
      omega
    | succ n9 ih9 =>
      have ih4 := ih9
      clear ih9
      intro to H locs s2 ls hT q1 q3 q2 hl hm9
      refine lv_iload_n hx hb dX6_beside_4 rfl (lv_at hl 0 rfl) ?_
      refine lv_if_lt (tgt := 31) hx hb dX6_beside_5 (by decide) (fun c9 => ?_) (fun c9 => ?_)
      · have c1 := gi_lt c9
        refine lv_aload_n hx hb dX6_beside_31 rfl (lv_at hl 1 rfl) ?_
        refine lv_iload_n hx hb dX6_beside_32 rfl (lv_at hl 0 rfl) ?_
        have K3 : zI s2 this 7 = zI σ0 this 7 := hT.eI t_this (by decide) rfl rfl
        have K3n : (zI s2 this 7).toInt = (zI σ0 this 7).toInt := by rw [K3]
        have J4 : zJ s2 rW = zJ σ0 rW := funext fun k => hT.eJ trW (by decide) rfl rfl
        have J4n : (zJ s2 (kR κ this 1) 4).toInt = (zJ σ0 rW 4).toInt := by rw [erW, J4]
        have P5 : zI s2 rP = zI σ0 rP := funext fun k => hT.eI trP (by decide) rfl rfl
        have R6 : RI κ s2 this := h0.ext hT.2.2.1 ⟨rfl, rfl, fun _ => rfl, fun _ => rfl, fun _ => rfl, fun _ => rfl⟩
        have hTo := hT
        refine tVi (n := 1) (As := [.int to]) (rest := []) hx hb hml hown hg hT hK hX (X6_isSample l κ s2 this to  (hT.k t_this (by decide)) R6) (fun _ _ h => h) (mwV k1440 k1442 k57 k92 k1443) ⟨rfl, by decide, by decide, by decide +kernel⟩ ⟨(Nat.le_of_ble_eq_true rfl), (Nat.le_of_ble_eq_true rfl)⟩ (hT.o20 (hT.k t_this (by decide))) rfl rfl hl.1 rfl (Nat.le_of_ble_eq_true rfl) dX6_beside_33 zroom.rf (fun x7 s8 H locs hφ hEs8 hT => ?_)
        obtain ⟨f9, f10⟩ := hφ
        have K11 : zI s8 this 7 = zI σ0 this 7 := hT.eI t_this (by decide) rfl rfl
        have K11n : (zI s8 this 7).toInt = (zI σ0 this 7).toInt := by rw [K11]
        have J12 : zJ s8 rW = zJ σ0 rW := funext fun k => hT.eJ trW (by decide) rfl rfl
        have J12n : (zJ s8 (kR κ this 1) 4).toInt = (zJ σ0 rW 4).toInt := by rw [erW, J12]
        have P13 : zI s8 rP = zI σ0 rP := funext fun k => hT.eI trP (by decide) rfl rfl
        try simp only [erW, erP, ix_0, ix_1, ix_2, ix_3, ix_4, ix_5, ix_6, ix_7, ix_8, ix_9, K3, J4, P5, K11, J12, P13] at f9
        refine lv_if_eq (tgt := 43) hx hb dX6_beside_36 (by decide) (fun c9 => ?_) (fun c9 => ?_)
        · have c2 := gi_eq c9
          refine lv_iconst (v := (-1)) hx hb dX6_beside_43 (by decide) ?_
          subst hQ9
          exact t_i hx hb hr hlocks hT (by simp only [erW, erP]; omega) dX6_beside_44
        · have c3 := gi_ne c9
          refine lv_iload_n hx hb dX6_beside_39 rfl (lv_at hl 0 rfl) ?_
          refine lv_goto (tgt := 44) hx hb dX6_beside_40 (by decide) ?_
          subst hQ9
          exact t_i hx hb hr hlocks hT (by simp only [erW, erP]; omega) dX6_beside_44
      · have c4 := gi_nlt c9
        refine lv_iload_n hx hb dX6_beside_8 rfl (lv_at hl 0 rfl) ?_
        refine lv_aload_n hx hb dX6_beside_9 rfl (lv_at hl 1 rfl) ?_
        obtain ⟨v14, ev14⟩ : ∃ zz9 : Int32, zI σ0 this 7 = zz9 := ⟨_, rfl⟩
        have qv14 : v14.toInt = (zI σ0 this 7).toInt := by rw [ev14]
        refine va_get (D := κ.1) (ci := 6) (v := .int (zI s2 this 7)) (C := RX6) (T := TX6) (N := 27) hx hb hg inX6 hown hK (hT.o20 (hT.k t_this (by decide))).one 0 rfl rfl 7 (by decide) (hg _ k1226) (fun _ h9 => h9) rfl dX6_beside_10 ?_
        rw [(hT.eI t_this (by decide) rfl ev14)]
        refine lv_icmp_ge (tgt := 31) hx hb dX6_beside_13 (by decide) (fun c9 => ?_) (fun c9 => ?_)
        · have c5 := gi_le c9
          refine lv_aload_n hx hb dX6_beside_31 rfl (lv_at hl 1 rfl) ?_
          refine lv_iload_n hx hb dX6_beside_32 rfl (lv_at hl 0 rfl) ?_
          have K15 : zI s2 this 7 = zI σ0 this 7 := hT.eI t_this (by decide) rfl rfl
          have K15n : (zI s2 this 7).toInt = (zI σ0 this 7).toInt := by rw [K15]
          have J16 : zJ s2 rW = zJ σ0 rW := funext fun k => hT.eJ trW (by decide) rfl rfl
          have J16n : (zJ s2 (kR κ this 1) 4).toInt = (zJ σ0 rW 4).toInt := by rw [erW, J16]
          have P17 : zI s2 rP = zI σ0 rP := funext fun k => hT.eI trP (by decide) rfl rfl
          have R18 : RI κ s2 this := h0.ext hT.2.2.1 ⟨rfl, rfl, fun _ => rfl, fun _ => rfl, fun _ => rfl, fun _ => rfl⟩
          have hTo := hT
          refine tVi (n := 1) (As := [.int to]) (rest := []) hx hb hml hown hg hT hK hX (X6_isSample l κ s2 this to  (hT.k t_this (by decide)) R18) (fun _ _ h => h) (mwV k1440 k1442 k57 k92 k1443) ⟨rfl, by decide, by decide, by decide +kernel⟩ ⟨(Nat.le_of_ble_eq_true rfl), (Nat.le_of_ble_eq_true rfl)⟩ (hT.o20 (hT.k t_this (by decide))) rfl rfl hl.1 rfl (Nat.le_of_ble_eq_true rfl) dX6_beside_33 zroom.rf (fun x19 s20 H locs hφ hEs20 hT => ?_)
          obtain ⟨f21, f22⟩ := hφ
          have K23 : zI s20 this 7 = zI σ0 this 7 := hT.eI t_this (by decide) rfl rfl
          have K23n : (zI s20 this 7).toInt = (zI σ0 this 7).toInt := by rw [K23]
          have J24 : zJ s20 rW = zJ σ0 rW := funext fun k => hT.eJ trW (by decide) rfl rfl
          have J24n : (zJ s20 (kR κ this 1) 4).toInt = (zJ σ0 rW 4).toInt := by rw [erW, J24]
          have P25 : zI s20 rP = zI σ0 rP := funext fun k => hT.eI trP (by decide) rfl rfl
          try simp only [erW, erP, ix_0, ix_1, ix_2, ix_3, ix_4, ix_5, ix_6, ix_7, ix_8, ix_9, K15, J16, P17, K23, J24, P25] at f21
          refine lv_if_eq (tgt := 43) hx hb dX6_beside_36 (by decide) (fun c9 => ?_) (fun c9 => ?_)
          · have c6 := gi_eq c9
            refine lv_iconst (v := (-1)) hx hb dX6_beside_43 (by decide) ?_
            subst hQ9
            exact t_i hx hb hr hlocks hT (by simp only [erW, erP]; omega) dX6_beside_44
          · have c7 := gi_ne c9
            refine lv_iload_n hx hb dX6_beside_39 rfl (lv_at hl 0 rfl) ?_
            refine lv_goto (tgt := 44) hx hb dX6_beside_40 (by decide) ?_
            subst hQ9
            exact t_i hx hb hr hlocks hT (by simp only [erW, erP]; omega) dX6_beside_44
        · have c8 := gi_nle c9
          refine lv_aload_n hx hb dX6_beside_16 rfl (lv_at hl 1 rfl) ?_
          refine lv_iload_n hx hb dX6_beside_17 rfl (lv_at hl 0 rfl) ?_
          have K26 : zI s2 this 7 = zI σ0 this 7 := hT.eI t_this (by decide) rfl rfl
          have K26n : (zI s2 this 7).toInt = (zI σ0 this 7).toInt := by rw [K26]
          have J27 : zJ s2 rW = zJ σ0 rW := funext fun k => hT.eJ trW (by decide) rfl rfl
          have J27n : (zJ s2 (kR κ this 1) 4).toInt = (zJ σ0 rW 4).toInt := by rw [erW, J27]
          have P28 : zI s2 rP = zI σ0 rP := funext fun k => hT.eI trP (by decide) rfl rfl
          have R29 : RI κ s2 this := h0.ext hT.2.2.1 ⟨rfl, rfl, fun _ => rfl, fun _ => rfl, fun _ => rfl, fun _ => rfl⟩
          have hTo := hT
          refine tVi (n := 1) (As := [.int to]) (rest := []) hx hb hml hown hg hT hK hX (X6_isPresent l κ s2 this to  (hT.k t_this (by decide)) R29 (by omega) (by omega)) (fun _ _ h => h) (mwV k1432 k1434 k56 k92 k1435) ⟨rfl, by decide, by decide, by decide +kernel⟩ ⟨(Nat.le_of_ble_eq_true rfl), (Nat.le_of_ble_eq_true rfl)⟩ (hT.o20 (hT.k t_this (by decide))) rfl rfl hl.1 rfl (Nat.le_of_ble_eq_true rfl) dX6_beside_18 zroom.rf (fun x30 s31 H locs hφ hEs31 hT => ?_)
          obtain ⟨f32, f33⟩ := hφ
          have K34 : zI s31 this 7 = zI σ0 this 7 := hT.eI t_this (by decide) rfl rfl
          have K34n : (zI s31 this 7).toInt = (zI σ0 this 7).toInt := by rw [K34]
          have J35 : zJ s31 rW = zJ σ0 rW := funext fun k => hT.eJ trW (by decide) rfl rfl
          have J35n : (zJ s31 (kR κ this 1) 4).toInt = (zJ σ0 rW 4).toInt := by rw [erW, J35]
          have P36 : zI s31 rP = zI σ0 rP := funext fun k => hT.eI trP (by decide) rfl rfl
          try simp only [erW, erP, ix_0, ix_1, ix_2, ix_3, ix_4, ix_5, ix_6, ix_7, ix_8, ix_9, K26, J27, P28, K34, J35, P36] at f32
          have ito : 0 ≤ to.toInt → (ix to : Int) = to.toInt := fun q9 => by unfold ix; omega
          have zto : (zI σ0 this 7).toInt - 1 = to.toInt → rlf (zJ σ0 rW) (ix to) = -1 := fun q9 => by rw [show ix to = rN σ0 this - 1 from by omega]; exact hW.f.2.2.1
          have yto : 0 = to.toInt → rlf (zJ σ0 rW) (ix to) = -1 := fun q9 => by rw [show ix to = 0 from by omega]; exact hW.f.2.1
          refine lv_if_ne (tgt := 31) hx hb dX6_beside_21 (by decide) (fun c9 => ?_) (fun c9 => ?_)
          · have c9 := gi_ne c9
            refine lv_aload_n hx hb dX6_beside_31 rfl (lv_at hl 1 rfl) ?_
            refine lv_iload_n hx hb dX6_beside_32 rfl (lv_at hl 0 rfl) ?_
            have R37 : RI κ s31 this := h0.ext hT.2.2.1 ⟨rfl, rfl, fun _ => rfl, fun _ => rfl, fun _ => rfl, fun _ => rfl⟩
            have hTo := hT
            refine tVi (n := 1) (As := [.int to]) (rest := []) hx hb hml hown hg hT hK hX (X6_isSample l κ s31 this to  (hT.k t_this (by decide)) R37) (fun _ _ h => h) (mwV k1440 k1442 k57 k92 k1443) ⟨rfl, by decide, by decide, by decide +kernel⟩ ⟨(Nat.le_of_ble_eq_true rfl), (Nat.le_of_ble_eq_true rfl)⟩ (hT.o20 (hT.k t_this (by decide))) rfl rfl hl.1 rfl (Nat.le_of_ble_eq_true rfl) dX6_beside_33 zroom.rf (fun x38 s39 H locs hφ hEs39 hT => ?_)
            obtain ⟨f40, f41⟩ := hφ
            have K42 : zI s39 this 7 = zI σ0 this 7 := hT.eI t_this (by decide) rfl rfl
            have K42n : (zI s39 this 7).toInt = (zI σ0 this 7).toInt := by rw [K42]
            have J43 : zJ s39 rW = zJ σ0 rW := funext fun k => hT.eJ trW (by decide) rfl rfl
            have J43n : (zJ s39 (kR κ this 1) 4).toInt = (zJ σ0 rW 4).toInt := by rw [erW, J43]
            have P44 : zI s39 rP = zI σ0 rP := funext fun k => hT.eI trP (by decide) rfl rfl
            try simp only [erW, erP, ix_0, ix_1, ix_2, ix_3, ix_4, ix_5, ix_6, ix_7, ix_8, ix_9, K34, J35, P36, K42, J43, P44] at f40
            refine lv_if_eq (tgt := 43) hx hb dX6_beside_36 (by decide) (fun c9 => ?_) (fun c9 => ?_)
            · have c10 := gi_eq c9
              refine lv_iconst (v := (-1)) hx hb dX6_beside_43 (by decide) ?_
              subst hQ9
              exact t_i hx hb hr hlocks hT (by simp only [erW, erP]; omega) dX6_beside_44
            · have c11 := gi_ne c9
              refine lv_iload_n hx hb dX6_beside_39 rfl (lv_at hl 0 rfl) ?_
              refine lv_goto (tgt := 44) hx hb dX6_beside_40 (by decide) ?_
              subst hQ9
              exact t_i hx hb hr hlocks hT (by simp only [erW, erP]; omega) dX6_beside_44
          · have c12 := gi_eq c9
            refine lv_iload_n hx hb dX6_beside_24 rfl (lv_at hl 0 rfl) ?_
            refine lv_iload_n hx hb dX6_beside_25 rfl (lv_at hl 3 rfl) ?_
            refine lv_iadd hx hb dX6_beside_26 ?_
            first | refine g_add (by omega) (by omega) (fun t45 ht45 => ?_) | refine lv_topi (fun t45 ht45 => ?_)
            refine lv_istore_n (lv' := [(3, .int t45), (0, .ref this), (1, .int i), (2, .int d)]) hx hb dX6_beside_27 rfl hl (by decide) rfl (fun ls hl => ?_)
            refine lv_goto (tgt := 4) hx hb dX6_beside_28 (by decide) ?_
            exact ih4 t45 _ _ _ _ hT  (by omega) (by omega) (by omega) hl (by omega)
  exact loop4 ((49 - t1.toInt).toNat + 1) t1 _ _ _ _ hT  (by omega) (by omega) (by omega) hl (by omega)
set_option maxHeartbeats 4000000 in
set_option maxRecDepth 100000 in
theorem X6_besideL (l : Launch) (κ : Kt) (σ0 : Gh) (this : Nat) (i : Int32) (d : Int32) (t_this : zk σ0 this 20) (h0 : RI κ σ0 this) (h1 : -1 ≤ i.toInt) (h2 : i.toInt ≤ (zI σ0 this 7).toInt) (h3 : d.toInt = -1) : TC l yX6_beside cX6_beside 4 (some .int) 2 46 [.ref this, .int i, .int d] κ σ0 (tqi κ fE σ0 (fun (r : Int32) (τ : Gh) => ((r.toInt = -1 ∧ i.toInt ≤ 0) ∨ (0 ≤ r.toInt ∧ r.toInt < (zI σ0 this 7).toInt ∧ rlf (zJ σ0 (kR κ this 1)) (ix r) = -1 ∧ r.toInt < i.toInt)))) := by
  refine TC.of fE (by decide +kernel) (Nat.le_of_ble_eq_true rfl) ?_
  intro p e s m below meth c ls hcs hK hX hT hl
  obtain ⟨hx, hb, hr, hml, hown, hg, hlocks, hin⟩ := hcs
  have hown : s.vm.findClass RX6 = some m.cls := hown
  have hl : lv_has ls 4 [(0, .ref this), (1, .int i), (2, .int d)] := hl
  have hT0 := hT
  have nm1 : ((-1) : Int32).toInt = (-1) := by decide
  have n0 : (0 : Int32).toInt = 0 := by decide
  have i_lo := Int32.le_toInt i
  have i_hi := Int32.toInt_lt i
  have d_lo := Int32.le_toInt d
  have d_hi := Int32.toInt_lt d
  generalize hQ9 : tQ _ _ _ _ _ _ = Q9
  obtain ⟨rW, erW⟩ : ∃ z, kR κ this 1 = z := ⟨_, rfl⟩
  have trW : zk σ0 rW 21 := by rw [← erW]; exact h0.1.2.1
  obtain ⟨rP, erP⟩ : ∃ z, kR κ this 5 = z := ⟨_, rfl⟩
  have trP : zk σ0 rP 25 := by rw [← erP]; exact h0.1.2.2.2.2
  have hB0 := h0.b
  rw [erW] at hB0
  have hW := h0.2.1
  rw [erW] at hW
  have hP := h0.2.2.1
  rw [erP] at hP
  have hrN : (rN σ0 this : Int) = (zI σ0 this 7).toInt := by unfold rN; omega
  refine lv_iload_n hx hb dX6_beside_0 rfl (lv_at hl 1 rfl) ?_
  refine lv_iload_n hx hb dX6_beside_1 rfl (lv_at hl 2 rfl) ?_
  refine lv_iadd hx hb dX6_beside_2 ?_
  first | refine g_add (by omega) (by omega) (fun t1 ht1 => ?_) | refine lv_topi (fun t1 ht1 => ?_)
  refine lv_istore_n (lv' := [(3, .int t1), (0, .ref this), (1, .int i), (2, .int d)]) hx hb dX6_beside_3 rfl hl (by decide) rfl (fun ls hl => ?_)
  have loop4 : ∀ (n9 : Nat) (to : Int32) (H : Heap) (locs : List Loc) (sg : Gh) (ls : Array Slot), TS κ fE σ0 sg s H locs → (to.toInt < i.toInt) → (-2 ≤ to.toInt) → (0 ≤ to.toInt ∨ i.toInt ≤ 0) → lv_has ls 4 [(3, .int to), (0, .ref this), (1, .int i), (2, .int d)] → (to.toInt + 2) < n9 → tW p l e 2 46 κ s m #[.ref this, .int i, .int d] below meth c H locs Q9 (F0 m 4 ls []) := by
    intro n9
    induction n9 with
    | zero =>
      intro to H locs sg ls hT q1 q3 q2 hl hm9
      exfalso
      omega
    | succ n9 ih9 =>
      have ih4 := ih9
      clear ih9
      intro to H locs s2 ls hT q1 q3 q2 hl hm9
      refine lv_iload_n hx hb dX6_beside_4 rfl (lv_at hl 0 rfl) ?_
      refine lv_if_lt (tgt := 31) hx hb dX6_beside_5 (by decide) (fun c9 => ?_) (fun c9 => ?_)
      · have c1 := gi_lt c9
        refine lv_aload_n hx hb dX6_beside_31 rfl (lv_at hl 1 rfl) ?_
        refine lv_iload_n hx hb dX6_beside_32 rfl (lv_at hl 0 rfl) ?_
        have K3 : zI s2 this 7 = zI σ0 this 7 := hT.eI t_this (by decide) rfl rfl
        have K3n : (zI s2 this 7).toInt = (zI σ0 this 7).toInt := by rw [K3]
        have J4 : zJ s2 rW = zJ σ0 rW := funext fun k => hT.eJ trW (by decide) rfl rfl
        have J4n : (zJ s2 (kR κ this 1) 4).toInt = (zJ σ0 rW 4).toInt := by rw [erW, J4]
        have P5 : zI s2 rP = zI σ0 rP := funext fun k => hT.eI trP (by decide) rfl rfl
        have R6 : RI κ s2 this := h0.ext hT.2.2.1 ⟨rfl, rfl, fun _ => rfl, fun _ => rfl, fun _ => rfl, fun _ => rfl⟩
        have hTo := hT
        refine tVi (n := 1) (As := [.int to]) (rest := []) hx hb hml hown hg hT hK hX (X6_isSample l κ s2 this to  (hT.k t_this (by decide)) R6) (fun _ _ h => h) (mwV k1440 k1442 k57 k92 k1443) ⟨rfl, by decide, by decide, by decide +kernel⟩ ⟨(Nat.le_of_ble_eq_true rfl), (Nat.le_of_ble_eq_true rfl)⟩ (hT.o20 (hT.k t_this (by decide))) rfl rfl hl.1 rfl (Nat.le_of_ble_eq_true rfl) dX6_beside_33 zroom.rf (fun x7 s8 H locs hφ hEs8 hT => ?_)
        obtain ⟨f9, f10⟩ := hφ
        have K11 : zI s8 this 7 = zI σ0 this 7 := hT.eI t_this (by decide) rfl rfl
        have K11n : (zI s8 this 7).toInt = (zI σ0 this 7).toInt := by rw [K11]
        have J12 : zJ s8 rW = zJ σ0 rW := funext fun k => hT.eJ trW (by decide) rfl rfl
        have J12n : (zJ s8 (kR κ this 1) 4).toInt = (zJ σ0 rW 4).toInt := by rw [erW, J12]
        have P13 : zI s8 rP = zI σ0 rP := funext fun k => hT.eI trP (by decide) rfl rfl
        try simp only [erW, erP, ix_0, ix_1, ix_2, ix_3, ix_4, ix_5, ix_6, ix_7, ix_8, ix_9, K3, J4, P5, K11, J12, P13] at f9
        refine lv_if_eq (tgt := 43) hx hb dX6_beside_36 (by decide) (fun c9 => ?_) (fun c9 => ?_)
        · have c2 := gi_eq c9
          refine lv_iconst (v := (-1)) hx hb dX6_beside_43 (by decide) ?_
          subst hQ9
          exact t_i hx hb hr hlocks hT (by simp only [erW, erP]; omega) dX6_beside_44
        · have c3 := gi_ne c9
          refine lv_iload_n hx hb dX6_beside_39 rfl (lv_at hl 0 rfl) ?_
          refine lv_goto (tgt := 44) hx hb dX6_beside_40 (by decide) ?_
          subst hQ9
          exact t_i hx hb hr hlocks hT (by simp only [erW, erP]; omega) dX6_beside_44
      · have c4 := gi_nlt c9
        refine lv_iload_n hx hb dX6_beside_8 rfl (lv_at hl 0 rfl) ?_
        refine lv_aload_n hx hb dX6_beside_9 rfl (lv_at hl 1 rfl) ?_
        obtain ⟨v14, ev14⟩ : ∃ zz9 : Int32, zI σ0 this 7 = zz9 := ⟨_, rfl⟩
        have qv14 : v14.toInt = (zI σ0 this 7).toInt := by rw [ev14]
        refine va_get (D := κ.1) (ci := 6) (v := .int (zI s2 this 7)) (C := RX6) (T := TX6) (N := 27) hx hb hg inX6 hown hK (hT.o20 (hT.k t_this (by decide))).one 0 rfl rfl 7 (by decide) (hg _ k1226) (fun _ h9 => h9) rfl dX6_beside_10 ?_
        rw [(hT.eI t_this (by decide) rfl ev14)]
        refine lv_icmp_ge (tgt := 31) hx hb dX6_beside_13 (by decide) (fun c9 => ?_) (fun c9 => ?_)
        · have c5 := gi_le c9
          refine lv_aload_n hx hb dX6_beside_31 rfl (lv_at hl 1 rfl) ?_
          refine lv_iload_n hx hb dX6_beside_32 rfl (lv_at hl 0 rfl) ?_
          have K15 : zI s2 this 7 = zI σ0 this 7 := hT.eI t_this (by decide) rfl rfl
          have K15n : (zI s2 this 7).toInt = (zI σ0 this 7).toInt := by rw [K15]
          have J16 : zJ s2 rW = zJ σ0 rW := funext fun k => hT.eJ trW (by decide) rfl rfl
          have J16n : (zJ s2 (kR κ this 1) 4).toInt = (zJ σ0 rW 4).toInt := by rw [erW, J16]
          have P17 : zI s2 rP = zI σ0 rP := funext fun k => hT.eI trP (by decide) rfl rfl
          have R18 : RI κ s2 this := h0.ext hT.2.2.1 ⟨rfl, rfl, fun _ => rfl, fun _ => rfl, fun _ => rfl, fun _ => rfl⟩
          have hTo := hT
          refine tVi (n := 1) (As := [.int to]) (rest := []) hx hb hml hown hg hT hK hX (X6_isSample l κ s2 this to  (hT.k t_this (by decide)) R18) (fun _ _ h => h) (mwV k1440 k1442 k57 k92 k1443) ⟨rfl, by decide, by decide, by decide +kernel⟩ ⟨(Nat.le_of_ble_eq_true rfl), (Nat.le_of_ble_eq_true rfl)⟩ (hT.o20 (hT.k t_this (by decide))) rfl rfl hl.1 rfl (Nat.le_of_ble_eq_true rfl) dX6_beside_33 zroom.rf (fun x19 s20 H locs hφ hEs20 hT => ?_)
          obtain ⟨f21, f22⟩ := hφ
          have K23 : zI s20 this 7 = zI σ0 this 7 := hT.eI t_this (by decide) rfl rfl
          have K23n : (zI s20 this 7).toInt = (zI σ0 this 7).toInt := by rw [K23]
          have J24 : zJ s20 rW = zJ σ0 rW := funext fun k => hT.eJ trW (by decide) rfl rfl
          have J24n : (zJ s20 (kR κ this 1) 4).toInt = (zJ σ0 rW 4).toInt := by rw [erW, J24]
          have P25 : zI s20 rP = zI σ0 rP := funext fun k => hT.eI trP (by decide) rfl rfl
          try simp only [erW, erP, ix_0, ix_1, ix_2, ix_3, ix_4, ix_5, ix_6, ix_7, ix_8, ix_9, K15, J16, P17, K23, J24, P25] at f21
          refine lv_if_eq (tgt := 43) hx hb dX6_beside_36 (by decide) (fun c9 => ?_) (fun c9 => ?_)
          · have c6 := gi_eq c9
            refine lv_iconst (v := (-1)) hx hb dX6_beside_43 (by decide) ?_
            subst hQ9
            exact t_i hx hb hr hlocks hT (by simp only [erW, erP]; omega) dX6_beside_44
          · have c7 := gi_ne c9
            refine lv_iload_n hx hb dX6_beside_39 rfl (lv_at hl 0 rfl) ?_
            refine lv_goto (tgt := 44) hx hb dX6_beside_40 (by decide) ?_
            subst hQ9
            exact t_i hx hb hr hlocks hT (by simp only [erW, erP]; omega) dX6_beside_44
        · have c8 := gi_nle c9
          refine lv_aload_n hx hb dX6_beside_16 rfl (lv_at hl 1 rfl) ?_
          refine lv_iload_n hx hb dX6_beside_17 rfl (lv_at hl 0 rfl) ?_
          have K26 : zI s2 this 7 = zI σ0 this 7 := hT.eI t_this (by decide) rfl rfl
          have K26n : (zI s2 this 7).toInt = (zI σ0 this 7).toInt := by rw [K26]
          have J27 : zJ s2 rW = zJ σ0 rW := funext fun k => hT.eJ trW (by decide) rfl rfl
          have J27n : (zJ s2 (kR κ this 1) 4).toInt = (zJ σ0 rW 4).toInt := by rw [erW, J27]
          have P28 : zI s2 rP = zI σ0 rP := funext fun k => hT.eI trP (by decide) rfl rfl
          have R29 : RI κ s2 this := h0.ext hT.2.2.1 ⟨rfl, rfl, fun _ => rfl, fun _ => rfl, fun _ => rfl, fun _ => rfl⟩
          have hTo := hT
          refine tVi (n := 1) (As := [.int to]) (rest := []) hx hb hml hown hg hT hK hX (X6_isPresent l κ s2 this to  (hT.k t_this (by decide)) R29 (by omega) (by omega)) (fun _ _ h => h) (mwV k1432 k1434 k56 k92 k1435) ⟨rfl, by decide, by decide, by decide +kernel⟩ ⟨(Nat.le_of_ble_eq_true rfl), (Nat.le_of_ble_eq_true rfl)⟩ (hT.o20 (hT.k t_this (by decide))) rfl rfl hl.1 rfl (Nat.le_of_ble_eq_true rfl) dX6_beside_18 zroom.rf (fun x30 s31 H locs hφ hEs31 hT => ?_)
          obtain ⟨f32, f33⟩ := hφ
          have K34 : zI s31 this 7 = zI σ0 this 7 := hT.eI t_this (by decide) rfl rfl
          have K34n : (zI s31 this 7).toInt = (zI σ0 this 7).toInt := by rw [K34]
          have J35 : zJ s31 rW = zJ σ0 rW := funext fun k => hT.eJ trW (by decide) rfl rfl
          have J35n : (zJ s31 (kR κ this 1) 4).toInt = (zJ σ0 rW 4).toInt := by rw [erW, J35]
          have P36 : zI s31 rP = zI σ0 rP := funext fun k => hT.eI trP (by decide) rfl rfl
          try simp only [erW, erP, ix_0, ix_1, ix_2, ix_3, ix_4, ix_5, ix_6, ix_7, ix_8, ix_9, K26, J27, P28, K34, J35, P36] at f32
          have ito : 0 ≤ to.toInt → (ix to : Int) = to.toInt := fun q9 => by unfold ix; omega
          have zto : (zI σ0 this 7).toInt - 1 = to.toInt → rlf (zJ σ0 rW) (ix to) = -1 := fun q9 => by rw [show ix to = rN σ0 this - 1 from by omega]; exact hW.f.2.2.1
          have yto : 0 = to.toInt → rlf (zJ σ0 rW) (ix to) = -1 := fun q9 => by rw [show ix to = 0 from by omega]; exact hW.f.2.1
          refine lv_if_ne (tgt := 31) hx hb dX6_beside_21 (by decide) (fun c9 => ?_) (fun c9 => ?_)
          · have c9 := gi_ne c9
            refine lv_aload_n hx hb dX6_beside_31 rfl (lv_at hl 1 rfl) ?_
            refine lv_iload_n hx hb dX6_beside_32 rfl (lv_at hl 0 rfl) ?_
            have R37 : RI κ s31 this := h0.ext hT.2.2.1 ⟨rfl, rfl, fun _ => rfl, fun _ => rfl, fun _ => rfl, fun _ => rfl⟩
            have hTo := hT
            refine tVi (n := 1) (As := [.int to]) (rest := []) hx hb hml hown hg hT hK hX (X6_isSample l κ s31 this to  (hT.k t_this (by decide)) R37) (fun _ _ h => h) (mwV k1440 k1442 k57 k92 k1443) ⟨rfl, by decide, by decide, by decide +kernel⟩ ⟨(Nat.le_of_ble_eq_true rfl), (Nat.le_of_ble_eq_true rfl)⟩ (hT.o20 (hT.k t_this (by decide))) rfl rfl hl.1 rfl (Nat.le_of_ble_eq_true rfl) dX6_beside_33 zroom.rf (fun x38 s39 H locs hφ hEs39 hT => ?_)
            obtain ⟨f40, f41⟩ := hφ
            have K42 : zI s39 this 7 = zI σ0 this 7 := hT.eI t_this (by decide) rfl rfl
            have K42n : (zI s39 this 7).toInt = (zI σ0 this 7).toInt := by rw [K42]
            have J43 : zJ s39 rW = zJ σ0 rW := funext fun k => hT.eJ trW (by decide) rfl rfl
            have J43n : (zJ s39 (kR κ this 1) 4).toInt = (zJ σ0 rW 4).toInt := by rw [erW, J43]
            have P44 : zI s39 rP = zI σ0 rP := funext fun k => hT.eI trP (by decide) rfl rfl
            try simp only [erW, erP, ix_0, ix_1, ix_2, ix_3, ix_4, ix_5, ix_6, ix_7, ix_8, ix_9, K34, J35, P36, K42, J43, P44] at f40
            refine lv_if_eq (tgt := 43) hx hb dX6_beside_36 (by decide) (fun c9 => ?_) (fun c9 => ?_)
            · have c10 := gi_eq c9
              refine lv_iconst (v := (-1)) hx hb dX6_beside_43 (by decide) ?_
              subst hQ9
              exact t_i hx hb hr hlocks hT (by simp only [erW, erP]; omega) dX6_beside_44
            · have c11 := gi_ne c9
              refine lv_iload_n hx hb dX6_beside_39 rfl (lv_at hl 0 rfl) ?_
              refine lv_goto (tgt := 44) hx hb dX6_beside_40 (by decide) ?_
              subst hQ9
              exact t_i hx hb hr hlocks hT (by simp only [erW, erP]; omega) dX6_beside_44
          · have c12 := gi_eq c9
            refine lv_iload_n hx hb dX6_beside_24 rfl (lv_at hl 0 rfl) ?_
            refine lv_iload_n hx hb dX6_beside_25 rfl (lv_at hl 3 rfl) ?_
            refine lv_iadd hx hb dX6_beside_26 ?_
            first | refine g_add (by omega) (by omega) (fun t45 ht45 => ?_) | refine lv_topi (fun t45 ht45 => ?_)
            refine lv_istore_n (lv' := [(3, .int t45), (0, .ref this), (1, .int i), (2, .int d)]) hx hb dX6_beside_27 rfl hl (by decide) rfl (fun ls hl => ?_)
            refine lv_goto (tgt := 4) hx hb dX6_beside_28 (by decide) ?_
            exact ih4 t45 _ _ _ _ hT  (by omega) (by omega) (by omega) hl (by omega)
  exact loop4 ((t1.toInt + 2).toNat + 1) t1 _ _ _ _ hT  (by omega) (by omega) (by omega) hl (by omega)

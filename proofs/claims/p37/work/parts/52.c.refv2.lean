/-! The reference with its numbers: details, gains -/
set_option maxHeartbeats 4000000 in
set_option maxRecDepth 100000 in
theorem X6v_detailOf (l : Launch) (κ : Kt) (σ0 : Gh) (this : Nat) (i : Int32) (t_this : zk σ0 this 20) (h0 : RI κ σ0 this) (h1 : 0 < i.toInt) (h2 : i.toInt < (zI σ0 this 7).toInt - 1) (h3 : rlf (zJ σ0 (kR κ this 1)) (ix i) = -1) (h4 : BV (rN σ0 this) (zJ σ0 (kR κ this 1))) (h5 : ((zJ σ0 (kR κ this 1)) 1).toInt = 0 ∨ ((zJ σ0 (kR κ this 1)) 1).toInt = 1 ∨ ((zJ σ0 (kR κ this 1)) 1).toInt = 2) : TC l yX6_detailOf cX6_detailOf 2 (some .long) 3 69 [.ref this, .int i] κ σ0 (tql κ fE σ0 (fun (r : Int64) (τ : Gh) => (∃ p q, LN (rlf (zJ σ0 (kR κ this 1))) (ix i) p ∧ RN (rN σ0 this) (rlf (zJ σ0 (kR κ this 1))) (ix i) q ∧ r.toInt = dtl (plf (zI σ0 (kR κ this 5))) ((zJ σ0 (kR κ this 1)) 1).toInt (rps (zJ σ0 (kR κ this 1))) (ix i) p q ∧ -2228000000 ≤ r.toInt ∧ r.toInt ≤ 2228000000))) := by
  refine TC.of fE (by decide +kernel) (Nat.le_of_ble_eq_true rfl) ?_
  intro p e s m below meth c ls hcs hK hX hT hl
  obtain ⟨hx, hb, hr, hml, hown, hg, hlocks, hin⟩ := hcs
  have hown : s.vm.findClass RX6 = some m.cls := hown
  have hl : lv_has ls 2 [(0, .ref this), (1, .int i)] := hl
  have hT0 := hT
  have nm1 : ((-1) : Int32).toInt = (-1) := by decide
  have n1 : (1 : Int32).toInt = 1 := by decide
  have n5 : (5 : Int32).toInt = 5 := by decide
  have i_lo := Int32.le_toInt i
  have i_hi := Int32.toInt_lt i
  generalize hQ9 : tQ _ _ _ _ _ _ = Q9
  obtain ⟨rW, erW⟩ : ∃ z, kR κ this 1 = z := ⟨_, rfl⟩
  have trW : zk σ0 rW 21 := by rw [← erW]; exact h0.1.2.1
  obtain ⟨rP, erP⟩ : ∃ z, kR κ this 5 = z := ⟨_, rfl⟩
  have trP : zk σ0 rP 25 := by rw [← erP]; exact h0.1.2.2.2.2
  have hB0 := h0.b
  rw [erW] at hB0
  have hW := h0.2.1
  rw [erW] at hW
  have hP := h0.2.2.1
  rw [erP] at hP
  have hrN : (rN σ0 this : Int) = (zI σ0 this 7).toInt := by unfold rN; omega
  try simp only [erW, erP] at h3
  try simp only [erW, erP] at h4
  try simp only [erW, erP] at h5
  have hBV := h4
  have i_i : (ix i : Int) = i.toInt := by unfold ix; omega
  have vi9 := hBV (ix i) (by omega) h3
  refine lv_aload_n hx hb dX6_detailOf_0 rfl (lv_at hl 0 rfl) ?_
  refine va_get (D := κ.1) (ci := 6) (v := .ref (kR κ this 1)) (C := RX6) (T := TX6) (N := 27) hx hb hg inX6 hown hK (hT.o20 (hT.k t_this (by decide))).one 0 rfl rfl 1 (by decide) (hg _ k1220) (fun _ h9 => h9) rfl dX6_detailOf_1 ?_
  rw [erW]
  refine lv_iconst (v := 5) hx hb dX6_detailOf_4 (by decide) ?_
  refine lv_iload_n hx hb dX6_detailOf_5 rfl (lv_at hl 1 rfl) ?_
  refine lv_iadd hx hb dX6_detailOf_6 ?_
  first | refine g_add (by omega) (by omega) (fun t201 ht201 => ?_) | refine lv_topi (fun t201 ht201 => ?_)
  refine va_lald hx hb hK (hT.o21 (hT.k trW (by decide))).one 0 1 rfl rfl (g_in (by omega) (by omega)) dX6_detailOf_7 ?_
  refine lv_topl (fun t202 ht202 => ?_)
  have xt202 : rvl (zJ σ0 rW) (ix i) = t202.toInt := by rw [ht202]; exact congrArg (fun q9 => (zJ σ0 rW q9).toInt) (show 5 + ix i = ix t201 from by unfold ix; omega)
  refine lv_aload_n hx hb dX6_detailOf_8 rfl (lv_at hl 0 rfl) ?_
  refine lv_iload_n hx hb dX6_detailOf_9 rfl (lv_at hl 1 rfl) ?_
  refine lv_aload_n hx hb dX6_detailOf_10 rfl (lv_at hl 0 rfl) ?_
  refine lv_iload_n hx hb dX6_detailOf_11 rfl (lv_at hl 1 rfl) ?_
  refine lv_iconst (v := (-1)) hx hb dX6_detailOf_12 (by decide) ?_
  have hTo := hT
  refine tVi (n := 2) (As := [.int i, .int (-1)]) (rest := [.int i, .ref this, .long t202]) hx hb hml hown hg hT hK hX (X6v_besideL l κ σ0 this i (-1)  (hT.k t_this (by decide)) h0 (by omega) (by omega) (by omega)) (fun _ _ h => h) (mwV k1449 k1451 k58 k92 k1452) ⟨rfl, by decide, by decide, by decide +kernel⟩ ⟨(Nat.le_of_ble_eq_true rfl), (Nat.le_of_ble_eq_true rfl)⟩ (hT.o20 (hT.k t_this (by decide))) rfl rfl hl.1 rfl (Nat.le_of_ble_eq_true rfl) dX6_detailOf_13 zroom.rf (fun x203 s204 H locs hφ hEs204 hT => ?_)
  have f205 := hφ
  have K206 : zI s204 this 7 = zI σ0 this 7 := hT.eI t_this (by decide) rfl rfl
  have K206n : (zI s204 this 7).toInt = (zI σ0 this 7).toInt := by rw [K206]
  have K206r : rN s204 this = rN σ0 this := by unfold rN; rw [K206]
  have J207 : zJ s204 rW = zJ σ0 rW := funext fun k => hT.eJ trW (by decide) rfl rfl
  have J207n : (zJ s204 (kR κ this 1) 4).toInt = (zJ σ0 rW 4).toInt := by rw [erW, J207]
  have P208 : zI s204 rP = zI σ0 rP := funext fun k => hT.eI trP (by decide) rfl rfl
  try simp only [erW, erP, ix_0, ix_1, ix_2, ix_3, ix_4, ix_5, ix_6, ix_7, ix_8, ix_9, K206, K206r, J207, P208] at f205
  obtain ⟨p9, ep9, hp9⟩ := f205
  have ip9 : ix x203 = p9 := ixof (by omega)
  have bp9 := hp9.1
  have lp9 : rlf (zJ σ0 rW) p9 = -1 := hp9.2.1
  have vp9 := hBV p9 (by omega) lp9
  refine lv_aload_n hx hb dX6_detailOf_16 rfl (lv_at hl 0 rfl) ?_
  refine lv_iload_n hx hb dX6_detailOf_17 rfl (lv_at hl 1 rfl) ?_
  refine lv_iconst (v := 1) hx hb dX6_detailOf_18 (by decide) ?_
  have R209 : RI κ s204 this := h0.ext hT.2.2.1 ⟨rfl, rfl, fun _ => rfl, fun _ => rfl, fun _ => rfl, fun _ => rfl⟩
  have hTo := hT
  refine tVi (n := 2) (As := [.int i, .int 1]) (rest := [.int x203, .int i, .ref this, .long t202]) hx hb hml hown hg hT hK hX (X6v_besideR l κ s204 this i 1  (hT.k t_this (by decide)) R209 (by omega) (by omega) (by omega)) (fun _ _ h => h) (mwV k1449 k1451 k58 k92 k1452) ⟨rfl, by decide, by decide, by decide +kernel⟩ ⟨(Nat.le_of_ble_eq_true rfl), (Nat.le_of_ble_eq_true rfl)⟩ (hT.o20 (hT.k t_this (by decide))) rfl rfl hl.1 rfl (Nat.le_of_ble_eq_true rfl) dX6_detailOf_19 zroom.rf (fun x210 s211 H locs hφ hEs211 hT => ?_)
  have f212 := hφ
  have K213 : zI s211 this 7 = zI σ0 this 7 := hT.eI t_this (by decide) rfl rfl
  have K213n : (zI s211 this 7).toInt = (zI σ0 this 7).toInt := by rw [K213]
  have K213r : rN s211 this = rN σ0 this := by unfold rN; rw [K213]
  have J214 : zJ s211 rW = zJ σ0 rW := funext fun k => hT.eJ trW (by decide) rfl rfl
  have J214n : (zJ s211 (kR κ this 1) 4).toInt = (zJ σ0 rW 4).toInt := by rw [erW, J214]
  have P215 : zI s211 rP = zI σ0 rP := funext fun k => hT.eI trP (by decide) rfl rfl
  try simp only [erW, erP, ix_0, ix_1, ix_2, ix_3, ix_4, ix_5, ix_6, ix_7, ix_8, ix_9, K206, K206r, J207, P208, K213, K213r, J214, P215] at f212
  obtain ⟨q9, eq9, hq9⟩ := f212
  have iq9 : ix x210 = q9 := ixof (by omega)
  have bq9 := hq9.1.1
  have lq9 : rlf (zJ σ0 rW) q9 = -1 := hq9.2.1
  have bq8 := hq9.1.2
  have vq9 := hBV q9 (by omega) lq9
  refine lv_aload_n hx hb dX6_detailOf_22 rfl (lv_at hl 0 rfl) ?_
  refine va_get (D := κ.1) (ci := 6) (v := .ref (kR κ this 1)) (C := RX6) (T := TX6) (N := 27) hx hb hg inX6 hown hK (hT.o20 (hT.k t_this (by decide))).one 0 rfl rfl 1 (by decide) (hg _ k1220) (fun _ h9 => h9) rfl dX6_detailOf_23 ?_
  rw [erW]
  refine lv_iconst (v := 1) hx hb dX6_detailOf_26 (by decide) ?_
  refine va_lald hx hb hK (hT.o21 (hT.k trW (by decide))).one 0 1 rfl rfl (g_in (by omega) (by omega)) dX6_detailOf_27 ?_
  refine lv_topl (fun t216 ht216 => ?_)
  have xt216 : (zJ s211 rW 1).toInt = t216.toInt := by rw [ht216]; exact congrArg (fun q9 => (zJ s211 rW q9).toInt) (show 1 = ix 1 from by decide)
  try simp only [K213, K213r, J214, P215] at xt216
  refine lv_l2i hx hb dX6_detailOf_28 rfl ?_
  first | refine g_l2i (by omega) (by omega) (fun t217 ht217 => ?_) | refine lv_topi (fun t217 ht217 => ?_)
  have R218 : RI κ s211 this := h0.ext hT.2.2.1 ⟨rfl, rfl, fun _ => rfl, fun _ => rfl, fun _ => rfl, fun _ => rfl⟩
  have hTo := hT
  refine tVl (n := 4) (As := [.int i, .int x203, .int x210, .int t217]) (rest := [.long t202]) hx hb hml hown hg hT hK hX (X6v_predicted l κ s211 this i x203 x210 t217  (hT.k t_this (by decide)) R218 (by omega) (by omega) (by omega) (by omega) (by omega) (by rw [ip9, erW, J214]; exact vp9) (by rw [iq9, erW, J214]; exact vq9)) (fun _ _ h => h) (mwV k1539 k1541 k67 k92 k1542) ⟨rfl, by decide, by decide, by decide +kernel⟩ ⟨(Nat.le_of_ble_eq_true rfl), (Nat.le_of_ble_eq_true rfl)⟩ (hT.o20 (hT.k t_this (by decide))) rfl rfl hl.1 rfl (Nat.le_of_ble_eq_true rfl) dX6_detailOf_29 zroom.rf (fun x219 s220 H locs hφ hEs220 hT => ?_)
  have f221 := hφ
  have K222 : zI s220 this 7 = zI σ0 this 7 := hT.eI t_this (by decide) rfl rfl
  have K222n : (zI s220 this 7).toInt = (zI σ0 this 7).toInt := by rw [K222]
  have K222r : rN s220 this = rN σ0 this := by unfold rN; rw [K222]
  have J223 : zJ s220 rW = zJ σ0 rW := funext fun k => hT.eJ trW (by decide) rfl rfl
  have J223n : (zJ s220 (kR κ this 1) 4).toInt = (zJ σ0 rW 4).toInt := by rw [erW, J223]
  have P224 : zI s220 rP = zI σ0 rP := funext fun k => hT.eI trP (by decide) rfl rfl
  try simp only [erW, erP, ix_0, ix_1, ix_2, ix_3, ix_4, ix_5, ix_6, ix_7, ix_8, ix_9, K213, K213r, J214, P215, K222, K222r, J223, P224] at f221
  rw [ip9, iq9] at f221
  have pb9 := prd_in (P := plf (zI σ0 rP)) (v := rvl (zJ σ0 rW)) (r := ((zJ σ0 rW) 1).toInt) (k := ix i) (p := p9) (q := q9) (B := 1114000000) (hP.lt (by omega) (by omega)) (hP.lt (by omega) (by omega)) vp9 vq9
  have ym9 : t217.toInt = ((zJ σ0 rW) 1).toInt := by omega
  rw [ym9] at f221
  refine lv_lsub hx hb dX6_detailOf_32 ?_
  refine g_subl (by omega) (by omega) (fun t225 ht225 => ?_)
  subst hQ9
  exact t_l hx hb hr hlocks hT ⟨p9, q9, by rw [erW]; exact hp9, by rw [erW]; exact hq9, by rw [erW, erP]; show _ = rvl (zJ σ0 rW) (ix i) - prd (plf (zI σ0 rP)) (rvl (zJ σ0 rW)) ((zJ σ0 rW) 1).toInt (ix i) p9 q9; omega, by omega, by omega⟩ dX6_detailOf_33
set_option maxHeartbeats 4000000 in
set_option maxRecDepth 100000 in
theorem X6v_gets (l : Launch) (κ : Kt) (σ0 : Gh) (this : Nat) (i : Int32) (ow : Int64) (ot : Int64) (t_this : zk σ0 this 20) (h0 : 0 ≤ i.toInt) (h1 : i.toInt ≤ 45) (h2 : 1 ≤ ow.toInt) (h3 : 1 ≤ ot.toInt) (h4 : ow.toInt + ot.toInt ≤ 20000) (h5 : 0 ≤ rst (zJ σ0 (kR κ this 1)) (ix i) 4) (h6 : rst (zJ σ0 (kR κ this 1)) (ix i) 4 ≤ 20000) (h7 : -2228000000 ≤ rst (zJ σ0 (kR κ this 1)) (ix i) 3) (h8 : rst (zJ σ0 (kR κ this 1)) (ix i) 3 ≤ 2228000000) : TC l yX6_gets cX6_gets 6 (some .long) 1 25 [.ref this, .int i, .long ow, .long ot] κ σ0 (tql κ fE σ0 (fun (r : Int64) (τ : Gh) => (r.toInt = gan (rst (zJ σ0 (kR κ this 1)) (ix i) 9) (rst (zJ σ0 (kR κ this 1)) (ix i) 4) (rst (zJ σ0 (kR κ this 1)) (ix i) 3) ow.toInt ot.toInt))) := by
  refine TC.of fE (by decide +kernel) (Nat.le_of_ble_eq_true rfl) ?_
  intro p e s m below meth c ls hcs hK hX hT hl
  obtain ⟨hx, hb, hr, hml, hown, hg, hlocks, hin⟩ := hcs
  have hown : s.vm.findClass RX6 = some m.cls := hown
  have hl : lv_has ls 6 [(0, .ref this), (1, .int i), (2, .long ow), (4, .long ot)] := hl
  have hT0 := hT
  have n0 : (0 : Int32).toInt = 0 := by decide
  have n3 : (3 : Int32).toInt = 3 := by decide
  have n4 : (4 : Int32).toInt = 4 := by decide
  have n9 : (9 : Int32).toInt = 9 := by decide
  have j0 : (0 : Int64).toInt = 0 := by decide
  have i_lo := Int32.le_toInt i
  have i_hi := Int32.toInt_lt i
  generalize hQ9 : tQ _ _ _ _ _ _ = Q9
  obtain ⟨rW, erW⟩ : ∃ z, kR κ this 1 = z := ⟨_, rfl⟩
  have trW : zk σ0 rW 21 := by rw [← erW]; exact hT0.ref t_this (by decide) (by decide) (by decide)
  obtain ⟨rP, erP⟩ : ∃ z, kR κ this 5 = z := ⟨_, rfl⟩
  have trP : zk σ0 rP 25 := by rw [← erP]; exact hT0.ref t_this (by decide) (by decide) (by decide)
  rw [erW] at h5 h6 h7 h8
  refine lv_aload_n hx hb dX6_gets_0 rfl (lv_at hl 0 rfl) ?_
  refine lv_iload_n hx hb dX6_gets_1 rfl (lv_at hl 1 rfl) ?_
  refine lv_bipush (v := 9) hx hb dX6_gets_2 (by decide) ?_
  have hTo := hT
  refine tVl (n := 2) (As := [.int i, .int 9]) (rest := []) hx hb hml hown hg hT hK hX (X6_of l κ σ0 this i 9  (hT.k t_this (by decide)) (by omega) (by omega) (by omega) (by omega)) (fun _ _ h => h) (mwV k1424 k1426 k54 k92 k1427) ⟨rfl, by decide, by decide, by decide +kernel⟩ ⟨(Nat.le_of_ble_eq_true rfl), (Nat.le_of_ble_eq_true rfl)⟩ (hT.o20 (hT.k t_this (by decide))) rfl rfl hl.1 rfl (Nat.le_of_ble_eq_true rfl) dX6_gets_4 zroom.rf (fun x201 s202 H locs hφ hEs202 hT => ?_)
  have f203 := hφ
  have K204 : zI s202 this 7 = zI σ0 this 7 := hT.eI t_this (by decide) rfl rfl
  have K204n : (zI s202 this 7).toInt = (zI σ0 this 7).toInt := by rw [K204]
  have K204r : rN s202 this = rN σ0 this := by unfold rN; rw [K204]
  have J205 : zJ s202 rW = zJ σ0 rW := funext fun k => hT.eJ trW (by decide) rfl rfl
  have J205n : (zJ s202 (kR κ this 1) 4).toInt = (zJ σ0 rW 4).toInt := by rw [erW, J205]
  have P206 : zI s202 rP = zI σ0 rP := funext fun k => hT.eI trP (by decide) rfl rfl
  try simp only [erW, erP, ix_0, ix_1, ix_2, ix_3, ix_4, ix_5, ix_6, ix_7, ix_8, ix_9, K204, K204r, J205, P206] at f203
  have yx201 : x201.toInt = rst (zJ σ0 rW) (ix i) 9 := by omega
  refine lv_lconst (v := 0) hx hb dX6_gets_7 (by decide) ?_
  refine W.lcmp hx hb dX6_gets_8 ?_
  refine lv_if_ne (tgt := 16) hx hb dX6_gets_9 (by decide) (fun c9 => ?_) (fun c9 => ?_)
  · have c1 := gl_ne c9
    refine lv_aload_n hx hb dX6_gets_16 rfl (lv_at hl 0 rfl) ?_
    refine lv_iload_n hx hb dX6_gets_17 rfl (lv_at hl 1 rfl) ?_
    refine lv_iconst (v := 4) hx hb dX6_gets_18 (by decide) ?_
    have hTo := hT
    refine tVl (n := 2) (As := [.int i, .int 4]) (rest := []) hx hb hml hown hg hT hK hX (X6_of l κ s202 this i 4  (hT.k t_this (by decide)) (by omega) (by omega) (by omega) (by omega)) (fun _ _ h => h) (mwV k1424 k1426 k54 k92 k1427) ⟨rfl, by decide, by decide, by decide +kernel⟩ ⟨(Nat.le_of_ble_eq_true rfl), (Nat.le_of_ble_eq_true rfl)⟩ (hT.o20 (hT.k t_this (by decide))) rfl rfl hl.1 rfl (Nat.le_of_ble_eq_true rfl) dX6_gets_19 zroom.rf (fun x207 s208 H locs hφ hEs208 hT => ?_)
    have f209 := hφ
    have K210 : zI s208 this 7 = zI σ0 this 7 := hT.eI t_this (by decide) rfl rfl
    have K210n : (zI s208 this 7).toInt = (zI σ0 this 7).toInt := by rw [K210]
    have K210r : rN s208 this = rN σ0 this := by unfold rN; rw [K210]
    have J211 : zJ s208 rW = zJ σ0 rW := funext fun k => hT.eJ trW (by decide) rfl rfl
    have J211n : (zJ s208 (kR κ this 1) 4).toInt = (zJ σ0 rW 4).toInt := by rw [erW, J211]
    have P212 : zI s208 rP = zI σ0 rP := funext fun k => hT.eI trP (by decide) rfl rfl
    try simp only [erW, erP, ix_0, ix_1, ix_2, ix_3, ix_4, ix_5, ix_6, ix_7, ix_8, ix_9, K204, K204r, J205, P206, K210, K210r, J211, P212] at f209
    have yx207 : x207.toInt = rst (zJ σ0 rW) (ix i) 4 := by omega
    refine lv_aload_n hx hb dX6_gets_22 rfl (lv_at hl 0 rfl) ?_
    refine lv_iload_n hx hb dX6_gets_23 rfl (lv_at hl 1 rfl) ?_
    refine lv_iconst (v := 3) hx hb dX6_gets_24 (by decide) ?_
    have hTo := hT
    refine tVl (n := 2) (As := [.int i, .int 3]) (rest := [.long x207]) hx hb hml hown hg hT hK hX (X6_of l κ s208 this i 3  (hT.k t_this (by decide)) (by omega) (by omega) (by omega) (by omega)) (fun _ _ h => h) (mwV k1424 k1426 k54 k92 k1427) ⟨rfl, by decide, by decide, by decide +kernel⟩ ⟨(Nat.le_of_ble_eq_true rfl), (Nat.le_of_ble_eq_true rfl)⟩ (hT.o20 (hT.k t_this (by decide))) rfl rfl hl.1 rfl (Nat.le_of_ble_eq_true rfl) dX6_gets_25 zroom.rf (fun x213 s214 H locs hφ hEs214 hT => ?_)
    have f215 := hφ
    have K216 : zI s214 this 7 = zI σ0 this 7 := hT.eI t_this (by decide) rfl rfl
    have K216n : (zI s214 this 7).toInt = (zI σ0 this 7).toInt := by rw [K216]
    have K216r : rN s214 this = rN σ0 this := by unfold rN; rw [K216]
    have J217 : zJ s214 rW = zJ σ0 rW := funext fun k => hT.eJ trW (by decide) rfl rfl
    have J217n : (zJ s214 (kR κ this 1) 4).toInt = (zJ σ0 rW 4).toInt := by rw [erW, J217]
    have P218 : zI s214 rP = zI σ0 rP := funext fun k => hT.eI trP (by decide) rfl rfl
    try simp only [erW, erP, ix_0, ix_1, ix_2, ix_3, ix_4, ix_5, ix_6, ix_7, ix_8, ix_9, K210, K210r, J211, P212, K216, K216r, J217, P218] at f215
    have yx213 : x213.toInt = rst (zJ σ0 rW) (ix i) 3 := by omega
    have m9 := mul_bd (a := rst (zJ σ0 rW) (ix i) 3) (x := rst (zJ σ0 rW) (ix i) 4) (A := 2228000000) (B := 20000) (by omega) (by omega) (by omega) (by omega)
    have c9 : rst (zJ σ0 rW) (ix i) 4 * rst (zJ σ0 rW) (ix i) 3 = rst (zJ σ0 rW) (ix i) 3 * rst (zJ σ0 rW) (ix i) 4 := Int.mul_comm _ _
    refine lv_lmul hx hb dX6_gets_28 ?_
    refine g_mull (by rw [yx207, yx213]; omega) (by rw [yx207, yx213]; omega) (fun t219 ht219 => ?_)
    rw [yx207, yx213] at ht219
    refine lv_lload_n hx hb dX6_gets_29 rfl (lv_at hl 2 rfl) ?_
    have m8 := mul_bd (a := rst (zJ σ0 rW) (ix i) 4 * rst (zJ σ0 rW) (ix i) 3) (x := ow.toInt) (A := 44560000000000) (B := 20000) (by omega) (by omega) (by omega) (by omega)
    refine lv_lmul hx hb dX6_gets_30 ?_
    refine g_mull (by rw [ht219]; omega) (by rw [ht219]; omega) (fun t220 ht220 => ?_)
    rw [ht219] at ht220
    refine lv_lload_n hx hb dX6_gets_31 rfl (lv_at hl 2 rfl) ?_
    refine lv_lload_n hx hb dX6_gets_32 rfl (lv_at hl 2 rfl) ?_
    refine lv_lmul hx hb dX6_gets_33 ?_
    have mt221 := sq_ge (show 0 ≤ ow.toInt by omega)
    have kt221 := sq_le (show 0 ≤ ow.toInt by omega) (show ow.toInt ≤ 20000 by omega)
    refine g_mull (by omega) (by omega) (fun t221 ht221 => ?_)
    refine lv_lload hx hb dX6_gets_34 (lv_at hl 3 rfl) ?_
    refine lv_lload hx hb dX6_gets_36 (lv_at hl 3 rfl) ?_
    refine lv_lmul hx hb dX6_gets_38 ?_
    have mt222 := sq_ge (show 0 ≤ ot.toInt by omega)
    have kt222 := sq_le (show 0 ≤ ot.toInt by omega) (show ot.toInt ≤ 20000 by omega)
    refine g_mull (by omega) (by omega) (fun t222 ht222 => ?_)
    refine lv_ladd hx hb dX6_gets_39 ?_
    refine g_addl (by omega) (by omega) (fun t223 ht223 => ?_)
    have hTo := hT
    refine tSl (n := 2) (As := [.long t220, .long t223]) (rest := []) hx hb hml hown hg hT hK hX (X6v_floor l κ s214 t220 t223   (by omega)) (fun _ _ h => h) (mwS k1469 k1470 k92 k1471) ⟨rfl, by decide, by decide, by decide +kernel⟩ ⟨(Nat.le_of_ble_eq_true rfl), (Nat.le_of_ble_eq_true rfl)⟩ rfl hl.1 rfl (Nat.le_of_ble_eq_true rfl) dX6_gets_40 zroom.rf (fun x224 s225 H locs hφ hEs225 hT => ?_)
    have f226 := hφ
    have K227 : zI s225 this 7 = zI σ0 this 7 := hT.eI t_this (by decide) rfl rfl
    have K227n : (zI s225 this 7).toInt = (zI σ0 this 7).toInt := by rw [K227]
    have K227r : rN s225 this = rN σ0 this := by unfold rN; rw [K227]
    have J228 : zJ s225 rW = zJ σ0 rW := funext fun k => hT.eJ trW (by decide) rfl rfl
    have J228n : (zJ s225 (kR κ this 1) 4).toInt = (zJ σ0 rW 4).toInt := by rw [erW, J228]
    have P229 : zI s225 rP = zI σ0 rP := funext fun k => hT.eI trP (by decide) rfl rfl
    try simp only [erW, erP, ix_0, ix_1, ix_2, ix_3, ix_4, ix_5, ix_6, ix_7, ix_8, ix_9, K216, K216r, J217, P218, K227, K227r, J228, P229] at f226
    have xd9 : t223.toInt = ow.toInt * ow.toInt + ot.toInt * ot.toInt := by omega
    rw [ht220, xd9] at f226
    subst hQ9
    exact t_l hx hb hr hlocks hT (by rw [erW]; unfold gan; rw [if_neg (by omega)]; omega) dX6_gets_43
  · have c2 := gl_eq c9
    refine lv_lconst (v := 0) hx hb dX6_gets_12 (by decide) ?_
    refine lv_goto (tgt := 43) hx hb dX6_gets_13 (by decide) ?_
    subst hQ9
    exact t_l hx hb hr hlocks hT (by rw [erW]; unfold gan; rw [if_pos (by omega)]; exact j0) dX6_gets_43

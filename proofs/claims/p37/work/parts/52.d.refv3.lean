/-! The reference with its numbers: the sample that is lifted next -/
set_option maxHeartbeats 4000000 in
set_option maxRecDepth 100000 in
theorem X6v_measure (l : Launch) (κ : Kt) (σ0 : Gh) (this : Nat) (i : Int32) (t_this : zk σ0 this 20) (h0 : RI κ σ0 this) (h1 : 0 < i.toInt) (h2 : i.toInt < (zI σ0 this 7).toInt - 1) (h3 : rlf (zJ σ0 (kR κ this 1)) (ix i) = -1) (h4 : BV (rN σ0 this) (zJ σ0 (kR κ this 1))) (h5 : ((zJ σ0 (kR κ this 1)) 1).toInt = 0 ∨ ((zJ σ0 (kR κ this 1)) 1).toInt = 1 ∨ ((zJ σ0 (kR κ this 1)) 1).toInt = 2) : TC l yX6_measure cX6_measure 5 (some .long) 4 90 [.ref this, .int i] κ σ0 (tql κ fE σ0 (fun (r : Int64) (τ : Gh) => (CO (rN σ0 this) (plf (zI σ0 (kR κ this 5))) ((zJ σ0 (kR κ this 1)) 0).toInt ((zJ σ0 (kR κ this 1)) 1).toInt (rps (zJ σ0 (kR κ this 1))) (ix i) r.toInt))) := by
  refine TC.of fE (by decide +kernel) (Nat.le_of_ble_eq_true rfl) ?_
  intro p e s m below meth c ls hcs hK hX hT hl
  obtain ⟨hx, hb, hr, hml, hown, hg, hlocks, hin⟩ := hcs
  have hown : s.vm.findClass RX6 = some m.cls := hown
  have hl : lv_has ls 5 [(0, .ref this), (1, .int i)] := hl
  have hT0 := hT
  have nm1 : ((-1) : Int32).toInt = (-1) := by decide
  have n0 : (0 : Int32).toInt = 0 := by decide
  have n1 : (1 : Int32).toInt = 1 := by decide
  have n2 : (2 : Int32).toInt = 2 := by decide
  have j0 : (0 : Int64).toInt = 0 := by decide
  have j1 : (1 : Int64).toInt = 1 := by decide
  have i_lo := Int32.le_toInt i
  have i_hi := Int32.toInt_lt i
  generalize hQ9 : tQ _ _ _ _ _ _ = Q9
  obtain ⟨rW, erW⟩ : ∃ z, kR κ this 1 = z := ⟨_, rfl⟩
  have trW : zk σ0 rW 21 := by rw [← erW]; exact h0.1.2.1
  obtain ⟨rP, erP⟩ : ∃ z, kR κ this 5 = z := ⟨_, rfl⟩
  have trP : zk σ0 rP 25 := by rw [← erP]; exact h0.1.2.2.2.2
  have hB0 := h0.b
  rw [erW] at hB0
  have hW := h0.2.1
  rw [erW] at hW
  have hP := h0.2.2.1
  rw [erP] at hP
  have hrN : (rN σ0 this : Int) = (zI σ0 this 7).toInt := by unfold rN; omega
  try simp only [erW, erP] at h3
  try simp only [erW, erP] at h4
  try simp only [erW, erP] at h5
  have i_i : (ix i : Int) = i.toInt := by unfold ix; omega
  refine lv_aload_n hx hb dX6_measure_0 rfl (lv_at hl 0 rfl) ?_
  refine va_get (D := κ.1) (ci := 6) (v := .ref (kR κ this 1)) (C := RX6) (T := TX6) (N := 27) hx hb hg inX6 hown hK (hT.o20 (hT.k t_this (by decide))).one 0 rfl rfl 1 (by decide) (hg _ k1220) (fun _ h9 => h9) rfl dX6_measure_1 ?_
  rw [erW]
  refine lv_iconst (v := 0) hx hb dX6_measure_4 (by decide) ?_
  refine va_lald hx hb hK (hT.o21 (hT.k trW (by decide))).one 0 1 rfl rfl (g_in (by omega) (by omega)) dX6_measure_5 ?_
  refine lv_topl (fun t201 ht201 => ?_)
  have xt201 : (zJ σ0 rW 0).toInt = t201.toInt := by rw [ht201]; exact congrArg (fun q9 => (zJ σ0 rW q9).toInt) (show 0 = ix 0 from by decide)
  refine lv_lconst (v := 0) hx hb dX6_measure_6 (by decide) ?_
  refine W.lcmp hx hb dX6_measure_7 ?_
  refine lv_if_ne (tgt := 36) hx hb dX6_measure_8 (by decide) (fun c9 => ?_) (fun c9 => ?_)
  · have c1 := gl_ne c9
    refine lv_aload_n hx hb dX6_measure_36 rfl (lv_at hl 0 rfl) ?_
    refine va_get (D := κ.1) (ci := 6) (v := .ref (kR κ this 1)) (C := RX6) (T := TX6) (N := 27) hx hb hg inX6 hown hK (hT.o20 (hT.k t_this (by decide))).one 0 rfl rfl 1 (by decide) (hg _ k1220) (fun _ h9 => h9) rfl dX6_measure_37 ?_
    rw [erW]
    refine lv_iconst (v := 0) hx hb dX6_measure_40 (by decide) ?_
    refine va_lald hx hb hK (hT.o21 (hT.k trW (by decide))).one 0 1 rfl rfl (g_in (by omega) (by omega)) dX6_measure_41 ?_
    refine lv_topl (fun t202 ht202 => ?_)
    have xt202 : (zJ σ0 rW 0).toInt = t202.toInt := by rw [ht202]; exact congrArg (fun q9 => (zJ σ0 rW q9).toInt) (show 0 = ix 0 from by decide)
    refine lv_lconst (v := 1) hx hb dX6_measure_42 (by decide) ?_
    refine W.lcmp hx hb dX6_measure_43 ?_
    refine lv_if_eq (tgt := 56) hx hb dX6_measure_44 (by decide) (fun c9 => ?_) (fun c9 => ?_)
    · have c2 := gl_eq c9
      refine lv_lconst (v := 0) hx hb dX6_measure_56 (by decide) ?_
      refine lv_lstore_n (lv' := [(2, .long 0), (0, .ref this), (1, .int i)]) hx hb dX6_measure_57 rfl hl (by decide) rfl (fun ls hl => ?_)
      refine lv_iload_n hx hb dX6_measure_58 rfl (lv_at hl 2 rfl) ?_
      refine lv_istore (lv' := [(4, .int i), (2, .long 0), (0, .ref this), (1, .int i)]) hx hb dX6_measure_59 hl (by decide) rfl (fun ls hl => ?_)
      have loop61 : ∀ (n9 : Nat) (v4 : Int32) (n1 : Int64) (H : Heap) (locs : List Loc) (sg : Gh) (ls : Array Slot), TS κ fE σ0 sg s H locs → (1 ≤ v4.toInt) → ((n1.toInt = 0 ∧ v4.toInt < 48) ∨ (n1.toInt = 1 ∧ v4.toInt < 24) ∨ (n1.toInt = 2 ∧ v4.toInt < 12) ∨ (n1.toInt = 3 ∧ v4.toInt < 6) ∨ (n1.toInt = 4 ∧ v4.toInt < 3) ∨ (n1.toInt = 5 ∧ v4.toInt < 2)) → (ntzF 8 i.toInt.toNat = n1.toInt.toNat + ntzF (8 - n1.toInt.toNat) v4.toInt.toNat) → lv_has ls 5 [(4, .int v4), (2, .long n1), (0, .ref this), (1, .int i)] → (v4.toInt) < n9 → tW p l e 4 90 κ s m #[.ref this, .int i] below meth c H locs Q9 (F0 m 61 ls []) := by
        intro n9
        induction n9 with
        | zero =>
          intro v4 n1 H locs sg ls hT q1 q2 q3 hl hm9
          exfalso
          omega
        | succ n9 ih9 =>
          have ih61 := ih9
          clear ih9
          intro v4 n1 H locs s203 ls hT q1 q2 q3 hl hm9
          refine lv_iload hx hb dX6_measure_61 (lv_at hl 0 rfl) ?_
          refine lv_iconst (v := 2) hx hb dX6_measure_63 (by decide) ?_
          refine lv_irem hx hb dX6_measure_64 (by decide) ?_
          refine g_remk (k := 2) n2 (by decide) (by omega) (fun t204 ht204 => ?_)
          refine lv_if_ne (tgt := 81) hx hb dX6_measure_65 (by decide) (fun c9 => ?_) (fun c9 => ?_)
          · have c3 := gi_ne c9
            refine lv_lload_n hx hb dX6_measure_81 rfl (lv_at hl 1 rfl) ?_
            have hN9 := hW.nb (k := ix i) (by omega) (by omega)
            subst hQ9
            exact t_l hx hb hr hlocks hT (hN9.1.elim fun p9 hp9 => hN9.2.elim fun q9 hq9 => ⟨p9, q9, by rw [erW]; exact hp9, by rw [erW]; exact hq9, by rw [erW, erP, cst_1 (by omega)]; rw [show 8 - n1.toInt.toNat = (7 - n1.toInt.toNat) + 1 from by omega, ntz_o (show v4.toInt.toNat % 2 ≠ 0 from by omega)] at q3; show n1.toInt = ((ntzF 8 i.toInt.toNat : Nat) : Int); omega⟩) dX6_measure_82
          · have c4 := gi_eq c9
            refine lv_lload_n hx hb dX6_measure_68 rfl (lv_at hl 1 rfl) ?_
            refine lv_lconst (v := 1) hx hb dX6_measure_69 (by decide) ?_
            refine lv_ladd hx hb dX6_measure_70 ?_
            refine g_addl (by omega) (by omega) (fun t205 ht205 => ?_)
            refine lv_lstore_n (lv' := [(2, .long t205), (4, .int v4), (0, .ref this), (1, .int i)]) hx hb dX6_measure_71 rfl hl (by decide) rfl (fun ls hl => ?_)
            refine lv_iload hx hb dX6_measure_72 (lv_at hl 1 rfl) ?_
            refine lv_iconst (v := 2) hx hb dX6_measure_74 (by decide) ?_
            refine lv_idiv hx hb dX6_measure_75 (by decide) ?_
            first | refine g_div (k := 2) n2 (by decide) (by omega) (fun t206 ht206 => ?_) | refine lv_topi (fun t206 ht206 => ?_)
            refine lv_istore (lv' := [(4, .int t206), (2, .long t205), (0, .ref this), (1, .int i)]) hx hb dX6_measure_76 hl (by decide) rfl (fun ls hl => ?_)
            refine lv_goto (tgt := 61) hx hb dX6_measure_78 (by decide) ?_
            exact ih61 t206 t205 _ _ _ _ hT  (by omega) (by omega) (by rw [q3, show 8 - n1.toInt.toNat = (8 - t205.toInt.toNat) + 1 from by omega, ntz_e (show v4.toInt.toNat % 2 = 0 from by omega), show v4.toInt.toNat / 2 = t206.toInt.toNat from by omega]; omega) hl (by omega)
      exact loop61 ((i.toInt).toNat + 1) i 0 _ _ _ _ hT  (by omega) (by omega) (by rw [j0]; show ntzF 8 i.toInt.toNat = 0 + ntzF 8 i.toInt.toNat; omega) hl (by omega)
    · have c5 := gl_ne c9
      refine lv_aload_n hx hb dX6_measure_47 rfl (lv_at hl 0 rfl) ?_
      refine lv_iload_n hx hb dX6_measure_48 rfl (lv_at hl 1 rfl) ?_
      have hTo := hT
      refine tVl (n := 1) (As := [.int i]) (rest := []) hx hb hml hown hg hT hK hX (X6v_detailOf l κ σ0 this i  (hT.k t_this (by decide)) h0 (by omega) (by omega) (by rw [erW]; exact h3) (by rw [erW]; exact h4) (by rw [erW]; omega)) (fun _ _ h => h) (mwV k1535 k1537 k66 k92 k1538) ⟨rfl, by decide, by decide, by decide +kernel⟩ ⟨(Nat.le_of_ble_eq_true rfl), (Nat.le_of_ble_eq_true rfl)⟩ (hT.o20 (hT.k t_this (by decide))) rfl rfl hl.1 rfl (Nat.le_of_ble_eq_true rfl) dX6_measure_49 zroom.rf (fun x207 s208 H locs hφ hEs208 hT => ?_)
      have f209 := hφ
      have K210 : zI s208 this 7 = zI σ0 this 7 := hT.eI t_this (by decide) rfl rfl
      have K210n : (zI s208 this 7).toInt = (zI σ0 this 7).toInt := by rw [K210]
      have K210r : rN s208 this = rN σ0 this := by unfold rN; rw [K210]
      have J211 : zJ s208 rW = zJ σ0 rW := funext fun k => hT.eJ trW (by decide) rfl rfl
      have J211n : (zJ s208 (kR κ this 1) 4).toInt = (zJ σ0 rW 4).toInt := by rw [erW, J211]
      have P212 : zI s208 rP = zI σ0 rP := funext fun k => hT.eI trP (by decide) rfl rfl
      try simp only [erW, erP, ix_0, ix_1, ix_2, ix_3, ix_4, ix_5, ix_6, ix_7, ix_8, ix_9, K210, K210r, J211, P212] at f209
      obtain ⟨p9, q9, hp9, hq9, ed9, dl9, dh9⟩ := f209
      have xl9 := Int64.le_toInt x207
      have hTo := hT
      refine tSl (n := 1) (As := [.long x207]) (rest := []) hx hb hml hown hg hT hK hX (X6_amount l κ s208 x207   ) (fun _ _ h => h) (mwS k1488 k1489 k92 k1490) ⟨rfl, by decide, by decide, by decide +kernel⟩ ⟨(Nat.le_of_ble_eq_true rfl), (Nat.le_of_ble_eq_true rfl)⟩ rfl hl.1 rfl (Nat.le_of_ble_eq_true rfl) dX6_measure_52 zroom.rf (fun x213 s214 H locs hφ hEs214 hT => ?_)
      have f215 := hφ
      have K216 : zI s214 this 7 = zI σ0 this 7 := hT.eI t_this (by decide) rfl rfl
      have K216n : (zI s214 this 7).toInt = (zI σ0 this 7).toInt := by rw [K216]
      have K216r : rN s214 this = rN σ0 this := by unfold rN; rw [K216]
      have J217 : zJ s214 rW = zJ σ0 rW := funext fun k => hT.eJ trW (by decide) rfl rfl
      have J217n : (zJ s214 (kR κ this 1) 4).toInt = (zJ σ0 rW 4).toInt := by rw [erW, J217]
      have P218 : zI s214 rP = zI σ0 rP := funext fun k => hT.eI trP (by decide) rfl rfl
      try simp only [erW, erP, ix_0, ix_1, ix_2, ix_3, ix_4, ix_5, ix_6, ix_7, ix_8, ix_9, K210, K210r, J211, P212, K216, K216r, J217, P218] at f215
      have ea9 : x213.toInt = ab x207.toInt := by
        rw [f215]; unfold ab
        by_cases z9 : x207.toInt < 0
        · rw [if_pos z9, if_pos z9]; exact v_neg rfl (by omega) (by omega)
        · rw [if_neg z9, if_neg z9]
      subst hQ9
      exact t_l hx hb hr hlocks hT ⟨p9, q9, by rw [erW]; exact hp9, by rw [erW]; exact hq9, by rw [erW, erP, cst_2 (by omega) (by omega), ← ed9]; exact ea9⟩ dX6_measure_55
  · have c6 := gl_eq c9
    refine lv_aload_n hx hb dX6_measure_11 rfl (lv_at hl 0 rfl) ?_
    refine va_get (D := κ.1) (ci := 6) (v := .ref (kR κ this 5)) (C := RX6) (T := TX6) (N := 27) hx hb hg inX6 hown hK (hT.o20 (hT.k t_this (by decide))).one 0 rfl rfl 5 (by decide) (hg _ k1224) (fun _ h9 => h9) rfl dX6_measure_12 ?_
    rw [erP]
    refine lv_aload_n hx hb dX6_measure_15 rfl (lv_at hl 0 rfl) ?_
    refine lv_iload_n hx hb dX6_measure_16 rfl (lv_at hl 1 rfl) ?_
    refine lv_iconst (v := 1) hx hb dX6_measure_17 (by decide) ?_
    have hTo := hT
    refine tVi (n := 2) (As := [.int i, .int 1]) (rest := [.ref rP]) hx hb hml hown hg hT hK hX (X6v_besideR l κ σ0 this i 1  (hT.k t_this (by decide)) h0 (by omega) (by omega) (by omega)) (fun _ _ h => h) (mwV k1449 k1451 k58 k92 k1452) ⟨rfl, by decide, by decide, by decide +kernel⟩ ⟨(Nat.le_of_ble_eq_true rfl), (Nat.le_of_ble_eq_true rfl)⟩ (hT.o20 (hT.k t_this (by decide))) rfl rfl hl.1 rfl (Nat.le_of_ble_eq_true rfl) dX6_measure_18 zroom.rf (fun x219 s220 H locs hφ hEs220 hT => ?_)
    have f221 := hφ
    have K222 : zI s220 this 7 = zI σ0 this 7 := hT.eI t_this (by decide) rfl rfl
    have K222n : (zI s220 this 7).toInt = (zI σ0 this 7).toInt := by rw [K222]
    have K222r : rN s220 this = rN σ0 this := by unfold rN; rw [K222]
    have J223 : zJ s220 rW = zJ σ0 rW := funext fun k => hT.eJ trW (by decide) rfl rfl
    have J223n : (zJ s220 (kR κ this 1) 4).toInt = (zJ σ0 rW 4).toInt := by rw [erW, J223]
    have P224 : zI s220 rP = zI σ0 rP := funext fun k => hT.eI trP (by decide) rfl rfl
    try simp only [erW, erP, ix_0, ix_1, ix_2, ix_3, ix_4, ix_5, ix_6, ix_7, ix_8, ix_9, K222, K222r, J223, P224] at f221
    obtain ⟨q9, eq9, hq9⟩ := f221
    have iq9 : ix x219 = q9 := ixof (by omega)
    have bq9 := hq9.1.1
    have bq8 := hq9.1.2
    refine va_iald hx hb hK (hT.o25 (hT.k trP (by decide))).one 0 0 rfl rfl (g_in (by omega) (by omega)) dX6_measure_21 ?_
    refine lv_topi (fun t225 ht225 => ?_)
    have xt225 : (zI s220 rP (ix x219)).toInt = t225.toInt := by rw [ht225]; exact congrArg (fun q9 => (zI s220 rP q9).toInt) (show ix x219 = ix x219 from rfl)
    try simp only [K222, K222r, J223, P224] at xt225
    have wt225 : plf (zI σ0 rP) q9 = t225.toInt := by rw [← iq9]; exact xt225
    have bbt225 := (hP q9 (by omega)).1
    have bpt225 : plf (zI σ0 rP) q9 = (zI σ0 rP q9).toInt := rfl
    refine lv_aload_n hx hb dX6_measure_22 rfl (lv_at hl 0 rfl) ?_
    refine va_get (D := κ.1) (ci := 6) (v := .ref (kR κ this 5)) (C := RX6) (T := TX6) (N := 27) hx hb hg inX6 hown hK (hT.o20 (hT.k t_this (by decide))).one 0 rfl rfl 5 (by decide) (hg _ k1224) (fun _ h9 => h9) rfl dX6_measure_23 ?_
    rw [erP]
    refine lv_aload_n hx hb dX6_measure_26 rfl (lv_at hl 0 rfl) ?_
    refine lv_iload_n hx hb dX6_measure_27 rfl (lv_at hl 1 rfl) ?_
    refine lv_iconst (v := (-1)) hx hb dX6_measure_28 (by decide) ?_
    have R226 : RI κ s220 this := h0.ext hT.2.2.1 ⟨rfl, rfl, fun _ => rfl, fun _ => rfl, fun _ => rfl, fun _ => rfl⟩
    have hTo := hT
    refine tVi (n := 2) (As := [.int i, .int (-1)]) (rest := [.ref rP, .int t225]) hx hb hml hown hg hT hK hX (X6v_besideL l κ s220 this i (-1)  (hT.k t_this (by decide)) R226 (by omega) (by omega) (by omega)) (fun _ _ h => h) (mwV k1449 k1451 k58 k92 k1452) ⟨rfl, by decide, by decide, by decide +kernel⟩ ⟨(Nat.le_of_ble_eq_true rfl), (Nat.le_of_ble_eq_true rfl)⟩ (hT.o20 (hT.k t_this (by decide))) rfl rfl hl.1 rfl (Nat.le_of_ble_eq_true rfl) dX6_measure_29 zroom.rf (fun x227 s228 H locs hφ hEs228 hT => ?_)
    have f229 := hφ
    have K230 : zI s228 this 7 = zI σ0 this 7 := hT.eI t_this (by decide) rfl rfl
    have K230n : (zI s228 this 7).toInt = (zI σ0 this 7).toInt := by rw [K230]
    have K230r : rN s228 this = rN σ0 this := by unfold rN; rw [K230]
    have J231 : zJ s228 rW = zJ σ0 rW := funext fun k => hT.eJ trW (by decide) rfl rfl
    have J231n : (zJ s228 (kR κ this 1) 4).toInt = (zJ σ0 rW 4).toInt := by rw [erW, J231]
    have P232 : zI s228 rP = zI σ0 rP := funext fun k => hT.eI trP (by decide) rfl rfl
    try simp only [erW, erP, ix_0, ix_1, ix_2, ix_3, ix_4, ix_5, ix_6, ix_7, ix_8, ix_9, K222, K222r, J223, P224, K230, K230r, J231, P232] at f229
    obtain ⟨p9, ep9, hp9⟩ := f229
    have ip9 : ix x227 = p9 := ixof (by omega)
    have bp9 := hp9.1
    refine va_iald hx hb hK (hT.o25 (hT.k trP (by decide))).one 0 0 rfl rfl (g_in (by omega) (by omega)) dX6_measure_32 ?_
    refine lv_topi (fun t233 ht233 => ?_)
    have xt233 : (zI s228 rP (ix x227)).toInt = t233.toInt := by rw [ht233]; exact congrArg (fun q9 => (zI s228 rP q9).toInt) (show ix x227 = ix x227 from rfl)
    try simp only [K230, K230r, J231, P232] at xt233
    have wt233 : plf (zI σ0 rP) p9 = t233.toInt := by rw [← ip9]; exact xt233
    have bbt233 := (hP p9 (by omega)).1
    have bpt233 : plf (zI σ0 rP) p9 = (zI σ0 rP p9).toInt := rfl
    refine lv_isub hx hb dX6_measure_33 ?_
    first | refine g_sub (by omega) (by omega) (fun t234 ht234 => ?_) | refine lv_topi (fun t234 ht234 => ?_)
    refine lv_i2l hx hb dX6_measure_34 rfl ?_
    refine g_i2l (fun t235 ht235 => ?_)
    subst hQ9
    exact t_l hx hb hr hlocks hT ⟨p9, q9, by rw [erW]; exact hp9, by rw [erW]; exact hq9, by rw [erW, erP]; exact (show t235.toInt = plf (zI σ0 rP) q9 - plf (zI σ0 rP) p9 by omega).trans (cst_0 (by omega)).symm⟩ dX6_measure_35
set_option maxHeartbeats 4000000 in
set_option maxRecDepth 100000 in
theorem X6v_nextOne (l : Launch) (κ : Kt) (σ0 : Gh) (this : Nat) (t_this : zk σ0 this 20) (h0 : RI κ σ0 this) (h1 : BV (rN σ0 this) (zJ σ0 (kR κ this 1))) (h2 : ((zJ σ0 (kR κ this 1)) 1).toInt = 0 ∨ ((zJ σ0 (kR κ this 1)) 1).toInt = 1 ∨ ((zJ σ0 (kR κ this 1)) 1).toInt = 2) : TC l yX6_nextOne cX6_nextOne 3 (some .int) 5 114 [.ref this] κ σ0 (tqi κ fE σ0 (fun (r : Int32) (τ : Gh) => ((r.toInt = -1 ∧ CH0 (rN σ0 this) (zI σ0 this 8).toInt (rps (zJ σ0 (kR κ this 1)))) ∨ (∃ k : Nat, r.toInt = k ∧ CHk (rN σ0 this) (plf (zI σ0 (kR κ this 5))) (zI σ0 this 8).toInt ((zJ σ0 (kR κ this 1)) 0).toInt ((zJ σ0 (kR κ this 1)) 1).toInt (rps (zJ σ0 (kR κ this 1))) k)))) := by
  refine TC.of fE (by decide +kernel) (Nat.le_of_ble_eq_true rfl) ?_
  intro p e s m below meth c ls hcs hK hX hT hl
  obtain ⟨hx, hb, hr, hml, hown, hg, hlocks, hin⟩ := hcs
  have hown : s.vm.findClass RX6 = some m.cls := hown
  have hl : lv_has ls 3 [(0, .ref this)] := hl
  have hT0 := hT
  have nm1 : ((-1) : Int32).toInt = (-1) := by decide
  have n0 : (0 : Int32).toInt = 0 := by decide
  have n1 : (1 : Int32).toInt = 1 := by decide
  generalize hQ9 : tQ _ _ _ _ _ _ = Q9
  obtain ⟨rW, erW⟩ : ∃ z, kR κ this 1 = z := ⟨_, rfl⟩
  have trW : zk σ0 rW 21 := by rw [← erW]; exact h0.1.2.1
  obtain ⟨rP, erP⟩ : ∃ z, kR κ this 5 = z := ⟨_, rfl⟩
  have trP : zk σ0 rP 25 := by rw [← erP]; exact h0.1.2.2.2.2
  have hB0 := h0.b
  rw [erW] at hB0
  have hW := h0.2.1
  rw [erW] at hW
  have hP := h0.2.2.1
  rw [erP] at hP
  have hrN : (rN σ0 this : Int) = (zI σ0 this 7).toInt := by unfold rN; omega
  try simp only [erW, erP] at h1
  try simp only [erW, erP] at h2
  refine lv_aload_n hx hb dX6_nextOne_0 rfl (lv_at hl 0 rfl) ?_
  have hTo := hT
  refine tVi (n := 0) (As := []) (rest := []) hx hb hml hown hg hT hK hX (X6_presents l κ σ0 this  (hT.k t_this (by decide)) h0) (fun _ _ h => h) (mwV k1412 k1414 k51 k92 k1415) ⟨rfl, by decide, by decide, by decide +kernel⟩ ⟨(Nat.le_of_ble_eq_true rfl), (Nat.le_of_ble_eq_true rfl)⟩ (hT.o20 (hT.k t_this (by decide))) rfl rfl hl.1 rfl (Nat.le_of_ble_eq_true rfl) dX6_nextOne_1 zroom.rf (fun x201 s202 H locs hφ hEs202 hT => ?_)
  have f203 := hφ
  have K204 : zI s202 this 7 = zI σ0 this 7 := hT.eI t_this (by decide) rfl rfl
  have K204n : (zI s202 this 7).toInt = (zI σ0 this 7).toInt := by rw [K204]
  have K204r : rN s202 this = rN σ0 this := by unfold rN; rw [K204]
  have J205 : zJ s202 rW = zJ σ0 rW := funext fun k => hT.eJ trW (by decide) rfl rfl
  have J205n : (zJ s202 (kR κ this 1) 4).toInt = (zJ σ0 rW 4).toInt := by rw [erW, J205]
  have P206 : zI s202 rP = zI σ0 rP := funext fun k => hT.eI trP (by decide) rfl rfl
  try simp only [erW, erP, ix_0, ix_1, ix_2, ix_3, ix_4, ix_5, ix_6, ix_7, ix_8, ix_9, K204, K204r, J205, P206] at f203
  refine lv_aload_n hx hb dX6_nextOne_4 rfl (lv_at hl 0 rfl) ?_
  obtain ⟨v207, ev207⟩ : ∃ zz9 : Int32, zI σ0 this 8 = zz9 := ⟨_, rfl⟩
  have qv207 : v207.toInt = (zI σ0 this 8).toInt := by rw [ev207]
  refine va_get (D := κ.1) (ci := 6) (v := .int (zI s202 this 8)) (C := RX6) (T := TX6) (N := 27) hx hb hg inX6 hown hK (hT.o20 (hT.k t_this (by decide))).one 0 rfl rfl 8 (by decide) (hg _ k1227) (fun _ h9 => h9) rfl dX6_nextOne_5 ?_
  rw [(hT.eI t_this (by decide) rfl ev207)]
  refine lv_icmp_gt (tgt := 13) hx hb dX6_nextOne_8 (by decide) (fun c9 => ?_) (fun c9 => ?_)
  · have c1 := gi_lt c9
    refine lv_iconst (v := (-1)) hx hb dX6_nextOne_13 (by decide) ?_
    refine lv_istore_n (lv' := [(1, .int (-1)), (0, .ref this)]) hx hb dX6_nextOne_14 rfl hl (by decide) rfl (fun ls hl => ?_)
    refine lv_iconst (v := 1) hx hb dX6_nextOne_15 (by decide) ?_
    refine lv_istore_n (lv' := [(2, .int 1), (1, .int (-1)), (0, .ref this)]) hx hb dX6_nextOne_16 rfl hl (by decide) rfl (fun ls hl => ?_)
    have loop17 : ∀ (n9 : Nat) (bs : Int32) (k : Int32) (H : Heap) (locs : List Loc) (sg : Gh) (ls : Array Slot), TS κ fE σ0 sg s H locs → (1 ≤ k.toInt) → (k.toInt ≤ 48) → (k.toInt ≤ (zI σ0 this 7).toInt - 1) → ((bs.toInt = -1 ∧ ∀ j : Nat, (j : Int) < k.toInt → ¬ inr (rN σ0 this) (rps (zJ σ0 rW)) j) ∨ (∃ (b : Nat) (c : Int), bs.toInt = b ∧ (b : Int) < k.toInt ∧ inr (rN σ0 this) (rps (zJ σ0 rW)) b ∧ CO (rN σ0 this) (plf (zI σ0 rP)) ((zJ σ0 rW) 0).toInt ((zJ σ0 rW) 1).toInt (rps (zJ σ0 rW)) b c ∧ ∀ j : Nat, (j : Int) < k.toInt → inr (rN σ0 this) (rps (zJ σ0 rW)) j → ∀ c', CO (rN σ0 this) (plf (zI σ0 rP)) ((zJ σ0 rW) 0).toInt ((zJ σ0 rW) 1).toInt (rps (zJ σ0 rW)) j c' → c ≤ c' ∧ (j < b → c < c'))) → lv_has ls 3 [(1, .int bs), (2, .int k), (0, .ref this)] → (48 - k.toInt) < n9 → tW p l e 5 114 κ s m #[.ref this] below meth c H locs Q9 (F0 m 17 ls []) := by
      intro n9
      induction n9 with
      | zero =>
        intro bs k H locs sg ls hT q1 q2 q2b q3 hl hm9
        exfalso
        omega
      | succ n9 ih9 =>
        have ih17 := ih9
        clear ih9
        intro bs k H locs s208 ls hT q1 q2 q2b q3 hl hm9
        refine lv_iload_n hx hb dX6_nextOne_17 rfl (lv_at hl 1 rfl) ?_
        refine lv_aload_n hx hb dX6_nextOne_18 rfl (lv_at hl 2 rfl) ?_
        obtain ⟨v209, ev209⟩ : ∃ zz9 : Int32, zI σ0 this 7 = zz9 := ⟨_, rfl⟩
        have qv209 : v209.toInt = (zI σ0 this 7).toInt := by rw [ev209]
        refine va_get (D := κ.1) (ci := 6) (v := .int (zI s208 this 7)) (C := RX6) (T := TX6) (N := 27) hx hb hg inX6 hown hK (hT.o20 (hT.k t_this (by decide))).one 0 rfl rfl 7 (by decide) (hg _ k1226) (fun _ h9 => h9) rfl dX6_nextOne_19 ?_
        rw [(hT.eI t_this (by decide) rfl ev209)]
        refine lv_iconst (v := 1) hx hb dX6_nextOne_22 (by decide) ?_
        refine lv_isub hx hb dX6_nextOne_23 ?_
        first | refine g_sub (by omega) (by omega) (fun t210 ht210 => ?_) | refine lv_topi (fun t210 ht210 => ?_)
        refine lv_icmp_ge (tgt := 62) hx hb dX6_nextOne_24 (by decide) (fun c9 => ?_) (fun c9 => ?_)
        · have c2 := gi_le c9
          refine lv_iload_n hx hb dX6_nextOne_62 rfl (lv_at hl 0 rfl) ?_
          subst hQ9
          exact t_i hx hb hr hlocks hT (by rw [erW, erP]; exact q3.elim (fun z9 => Or.inl ⟨z9.1, Or.inr (fun j hj => z9.2 j (by have := hj.2.1; omega) hj)⟩) (fun ⟨b, c, z1, z2, z3, z4, z5⟩ => Or.inr ⟨b, z1, (by show _ < ((rN σ0 this) : Int) - ((zJ σ0 rW) 4).toInt.toNat; omega), z3, c, z4, fun j hj => z5 j (by have := hj.2.1; omega) hj⟩)) dX6_nextOne_63
        · have c3 := gi_nle c9
          refine lv_aload_n hx hb dX6_nextOne_27 rfl (lv_at hl 2 rfl) ?_
          refine lv_iload_n hx hb dX6_nextOne_28 rfl (lv_at hl 1 rfl) ?_
          have K211 : zI s208 this 7 = zI σ0 this 7 := hT.eI t_this (by decide) rfl rfl
          have K211n : (zI s208 this 7).toInt = (zI σ0 this 7).toInt := by rw [K211]
          have K211r : rN s208 this = rN σ0 this := by unfold rN; rw [K211]
          have J212 : zJ s208 rW = zJ σ0 rW := funext fun k => hT.eJ trW (by decide) rfl rfl
          have J212n : (zJ s208 (kR κ this 1) 4).toInt = (zJ σ0 rW 4).toInt := by rw [erW, J212]
          have P213 : zI s208 rP = zI σ0 rP := funext fun k => hT.eI trP (by decide) rfl rfl
          have R214 : RI κ s208 this := h0.ext hT.2.2.1 ⟨rfl, rfl, fun _ => rfl, fun _ => rfl, fun _ => rfl, fun _ => rfl⟩
          have hTo := hT
          refine tVi (n := 1) (As := [.int k]) (rest := []) hx hb hml hown hg hT hK hX (X6_isInner l κ s208 this k  (hT.k t_this (by decide)) R214) (fun _ _ h => h) (mwV k1527 k1529 k64 k92 k1530) ⟨rfl, by decide, by decide, by decide +kernel⟩ ⟨(Nat.le_of_ble_eq_true rfl), (Nat.le_of_ble_eq_true rfl)⟩ (hT.o20 (hT.k t_this (by decide))) rfl rfl hl.1 rfl (Nat.le_of_ble_eq_true rfl) dX6_nextOne_29 zroom.rf (fun x215 s216 H locs hφ hEs216 hT => ?_)
          obtain ⟨f217, f218⟩ := hφ
          have K219 : zI s216 this 7 = zI σ0 this 7 := hT.eI t_this (by decide) rfl rfl
          have K219n : (zI s216 this 7).toInt = (zI σ0 this 7).toInt := by rw [K219]
          have K219r : rN s216 this = rN σ0 this := by unfold rN; rw [K219]
          have J220 : zJ s216 rW = zJ σ0 rW := funext fun k => hT.eJ trW (by decide) rfl rfl
          have J220n : (zJ s216 (kR κ this 1) 4).toInt = (zJ σ0 rW 4).toInt := by rw [erW, J220]
          have P221 : zI s216 rP = zI σ0 rP := funext fun k => hT.eI trP (by decide) rfl rfl
          try simp only [erW, erP, ix_0, ix_1, ix_2, ix_3, ix_4, ix_5, ix_6, ix_7, ix_8, ix_9, K211, K211r, J212, P213, K219, K219r, J220, P221] at f217
          have i_k : (ix k : Int) = k.toInt := by unfold ix; omega
          have in9 : x215.toInt ≠ 0 → inr (rN σ0 this) (rps (zJ σ0 rW)) (ix k) := fun z9 => ⟨by omega, by omega, (show rlf (zJ σ0 rW) (ix k) = -1 by omega)⟩
          have ni9 : x215.toInt = 0 → ¬ inr (rN σ0 this) (rps (zJ σ0 rW)) (ix k) := fun z9 z8 => by have z7 : rlf (zJ σ0 rW) (ix k) = -1 := z8.2.2; have z6 := z8.1; have z5 := z8.2.1; omega
          refine lv_if_eq (tgt := 56) hx hb dX6_nextOne_32 (by decide) (fun c9 => ?_) (fun c9 => ?_)
          · have c4 := gi_eq c9
            have bt222 : (bs.toInt = -1 ∧ ∀ j : Nat, (j : Int) < (k.toInt + 1) → ¬ inr (rN σ0 this) (rps (zJ σ0 rW)) j) ∨ (∃ (b : Nat) (c : Int), bs.toInt = b ∧ (b : Int) < (k.toInt + 1) ∧ inr (rN σ0 this) (rps (zJ σ0 rW)) b ∧ CO (rN σ0 this) (plf (zI σ0 rP)) ((zJ σ0 rW) 0).toInt ((zJ σ0 rW) 1).toInt (rps (zJ σ0 rW)) b c ∧ ∀ j : Nat, (j : Int) < (k.toInt + 1) → inr (rN σ0 this) (rps (zJ σ0 rW)) j → ∀ c', CO (rN σ0 this) (plf (zI σ0 rP)) ((zJ σ0 rW) 0).toInt ((zJ σ0 rW) 1).toInt (rps (zJ σ0 rW)) j c' → c ≤ c' ∧ (j < b → c < c')) := q3.imp (fun z9 => ⟨z9.1, fun j j1 j2 => by
              by_cases e9 : j = ix k
              · exact ni9 (by omega) (by rw [← e9]; exact j2)
              · exact z9.2 j (by omega) j2⟩) (fun ⟨b, c, z1, z2, z3, z4, z5⟩ => ⟨b, c, z1, by omega, z3, z4, fun j j1 j2 c2 j3 => by
              by_cases e9 : j = ix k
              · exact absurd (by rw [← e9]; exact j2) (ni9 (by omega))
              · exact z5 j (by omega) j2 c2 j3⟩)
            obtain ⟨t223, qt223⟩ : ∃ zz9 : Int32, k + Int32.ofInt 1 = zz9 := ⟨_, rfl⟩
            refine lv_iinc (v := t223) (lv' := [(2, .int t223), (1, .int bs), (0, .ref this)]) hx hb dX6_nextOne_56 hl (k := 1) rfl qt223 (by decide) rfl (fun ls hl => ?_)
            have ht223 : t223.toInt = k.toInt + 1 := by rw [← qt223]; exact v_addi rfl (show (Int32.ofInt 1).toInt = 1 from by decide) (by omega) (by omega)
            refine lv_goto (tgt := 17) hx hb dX6_nextOne_59 (by decide) ?_
            exact ih17 bs t223 _ _ _ _ hT  (by omega) (by omega) (by omega) (by rw [show t223.toInt = k.toInt + 1 from by omega]; exact bt222) (lv_sub hl [1, 0, 2] rfl) (by omega)
          · have c5 := gi_ne c9
            refine lv_iload_n hx hb dX6_nextOne_35 rfl (lv_at hl 0 rfl) ?_
            refine lv_iconst (v := (-1)) hx hb dX6_nextOne_36 (by decide) ?_
            refine lv_icmp_eq (tgt := 54) hx hb dX6_nextOne_37 (by decide) (fun c9 => ?_) (fun c9 => ?_)
            · have c6 := gi_eq c9
              refine lv_iload_n hx hb dX6_nextOne_54 rfl (lv_at hl 1 rfl) ?_
              refine lv_istore_n (lv' := [(1, .int k), (2, .int k), (0, .ref this)]) hx hb dX6_nextOne_55 rfl hl (by decide) rfl (fun ls hl => ?_)
              have ex9 : ∃ c, CO (rN σ0 this) (plf (zI σ0 rP)) ((zJ σ0 rW) 0).toInt ((zJ σ0 rW) 1).toInt (rps (zJ σ0 rW)) (ix k) c := by obtain ⟨⟨p9, hp9⟩, q9, hq9⟩ := hW.nb (k := ix k) (by omega) (by omega); exact ⟨_, p9, q9, hp9, hq9, rfl⟩
              obtain ⟨c8, hc8⟩ := ex9
              have bt224 : (k.toInt = -1 ∧ ∀ j : Nat, (j : Int) < (k.toInt + 1) → ¬ inr (rN σ0 this) (rps (zJ σ0 rW)) j) ∨ (∃ (b : Nat) (c : Int), k.toInt = b ∧ (b : Int) < (k.toInt + 1) ∧ inr (rN σ0 this) (rps (zJ σ0 rW)) b ∧ CO (rN σ0 this) (plf (zI σ0 rP)) ((zJ σ0 rW) 0).toInt ((zJ σ0 rW) 1).toInt (rps (zJ σ0 rW)) b c ∧ ∀ j : Nat, (j : Int) < (k.toInt + 1) → inr (rN σ0 this) (rps (zJ σ0 rW)) j → ∀ c', CO (rN σ0 this) (plf (zI σ0 rP)) ((zJ σ0 rW) 0).toInt ((zJ σ0 rW) 1).toInt (rps (zJ σ0 rW)) j c' → c ≤ c' ∧ (j < b → c < c')) := Or.inr ⟨ix k, c8, i_k.symm, by omega, in9 (by omega), hc8, fun j j1 j2 c2 j3 => by
                by_cases e9 : j = ix k
                · rw [e9] at j3
                  have z9 := j3.one hc8
                  omega
                · exact absurd j2 (q3.elim (fun z9 => z9.2 j (by omega)) (fun z9 => by obtain ⟨b, c, z8, -⟩ := z9; omega))⟩
              obtain ⟨t225, qt225⟩ : ∃ zz9 : Int32, k + Int32.ofInt 1 = zz9 := ⟨_, rfl⟩
              refine lv_iinc (v := t225) (lv' := [(2, .int t225), (1, .int k), (0, .ref this)]) hx hb dX6_nextOne_56 hl (k := 1) rfl qt225 (by decide) rfl (fun ls hl => ?_)
              have ht225 : t225.toInt = k.toInt + 1 := by rw [← qt225]; exact v_addi rfl (show (Int32.ofInt 1).toInt = 1 from by decide) (by omega) (by omega)
              refine lv_goto (tgt := 17) hx hb dX6_nextOne_59 (by decide) ?_
              exact ih17 k t225 _ _ _ _ hT  (by omega) (by omega) (by omega) (by rw [show t225.toInt = k.toInt + 1 from by omega]; exact bt224) (lv_sub hl [1, 0, 2] rfl) (by omega)
            · have c7 := gi_ne c9
              refine lv_aload_n hx hb dX6_nextOne_40 rfl (lv_at hl 2 rfl) ?_
              refine lv_iload_n hx hb dX6_nextOne_41 rfl (lv_at hl 1 rfl) ?_
              obtain ⟨b9, cx9, eb9, bk9, ib9, co9, le9⟩ := q3.resolve_left (fun z9 => by have := z9.1; omega)
              have ibb9 : ix bs = b9 := ixof (by omega)
              have ib1 := ib9.1
              have ib2 := ib9.2.1
              have ib3 : rlf (zJ σ0 rW) b9 = -1 := ib9.2.2
              have R226 : RI κ s216 this := h0.ext hT.2.2.1 ⟨rfl, rfl, fun _ => rfl, fun _ => rfl, fun _ => rfl, fun _ => rfl⟩
              have hTo := hT
              refine tVl (n := 1) (As := [.int k]) (rest := []) hx hb hml hown hg hT hK hX (X6v_measure l κ s216 this k  (hT.k t_this (by decide)) R226 (by omega) (by omega) (by rw [erW, J220]; omega) (by rw [erW, J220, show rN s216 this = rN σ0 this from by unfold rN; rw [hT.eI t_this (by decide) rfl rfl]]; exact h1) (by rw [erW, J220]; omega)) (fun _ _ h => h) (mwV k1531 k1533 k65 k92 k1534) ⟨rfl, by decide, by decide, by decide +kernel⟩ ⟨(Nat.le_of_ble_eq_true rfl), (Nat.le_of_ble_eq_true rfl)⟩ (hT.o20 (hT.k t_this (by decide))) rfl rfl hl.1 rfl (Nat.le_of_ble_eq_true rfl) dX6_nextOne_42 zroom.rf (fun x227 s228 H locs hφ hEs228 hT => ?_)
              have f229 := hφ
              have K230 : zI s228 this 7 = zI σ0 this 7 := hT.eI t_this (by decide) rfl rfl
              have K230n : (zI s228 this 7).toInt = (zI σ0 this 7).toInt := by rw [K230]
              have K230r : rN s228 this = rN σ0 this := by unfold rN; rw [K230]
              have J231 : zJ s228 rW = zJ σ0 rW := funext fun k => hT.eJ trW (by decide) rfl rfl
              have J231n : (zJ s228 (kR κ this 1) 4).toInt = (zJ σ0 rW 4).toInt := by rw [erW, J231]
              have P232 : zI s228 rP = zI σ0 rP := funext fun k => hT.eI trP (by decide) rfl rfl
              try simp only [erW, erP, ix_0, ix_1, ix_2, ix_3, ix_4, ix_5, ix_6, ix_7, ix_8, ix_9, K219, K219r, J220, P221, K230, K230r, J231, P232] at f229
              have ck9 : CO (rN σ0 this) (plf (zI σ0 rP)) ((zJ σ0 rW) 0).toInt ((zJ σ0 rW) 1).toInt (rps (zJ σ0 rW)) (ix k) x227.toInt := f229
              refine lv_aload_n hx hb dX6_nextOne_45 rfl (lv_at hl 2 rfl) ?_
              refine lv_iload_n hx hb dX6_nextOne_46 rfl (lv_at hl 0 rfl) ?_
              have R233 : RI κ s228 this := h0.ext hT.2.2.1 ⟨rfl, rfl, fun _ => rfl, fun _ => rfl, fun _ => rfl, fun _ => rfl⟩
              have hTo := hT
              refine tVl (n := 1) (As := [.int bs]) (rest := [.long x227]) hx hb hml hown hg hT hK hX (X6v_measure l κ s228 this bs  (hT.k t_this (by decide)) R233 (by omega) (by omega) (by rw [erW, J231, ibb9]; exact ib3) (by rw [erW, J231, show rN s228 this = rN σ0 this from by unfold rN; rw [hT.eI t_this (by decide) rfl rfl]]; exact h1) (by rw [erW, J231]; omega)) (fun _ _ h => h) (mwV k1531 k1533 k65 k92 k1534) ⟨rfl, by decide, by decide, by decide +kernel⟩ ⟨(Nat.le_of_ble_eq_true rfl), (Nat.le_of_ble_eq_true rfl)⟩ (hT.o20 (hT.k t_this (by decide))) rfl rfl hl.1 rfl (Nat.le_of_ble_eq_true rfl) dX6_nextOne_47 zroom.rf (fun x234 s235 H locs hφ hEs235 hT => ?_)
              have f236 := hφ
              have K237 : zI s235 this 7 = zI σ0 this 7 := hT.eI t_this (by decide) rfl rfl
              have K237n : (zI s235 this 7).toInt = (zI σ0 this 7).toInt := by rw [K237]
              have K237r : rN s235 this = rN σ0 this := by unfold rN; rw [K237]
              have J238 : zJ s235 rW = zJ σ0 rW := funext fun k => hT.eJ trW (by decide) rfl rfl
              have J238n : (zJ s235 (kR κ this 1) 4).toInt = (zJ σ0 rW 4).toInt := by rw [erW, J238]
              have P239 : zI s235 rP = zI σ0 rP := funext fun k => hT.eI trP (by decide) rfl rfl
              try simp only [erW, erP, ix_0, ix_1, ix_2, ix_3, ix_4, ix_5, ix_6, ix_7, ix_8, ix_9, K230, K230r, J231, P232, K237, K237r, J238, P239] at f236
              have cb9 : CO (rN σ0 this) (plf (zI σ0 rP)) ((zJ σ0 rW) 0).toInt ((zJ σ0 rW) 1).toInt (rps (zJ σ0 rW)) b9 x234.toInt := by rw [← ibb9]; exact f236
              have cc9 := cb9.one co9
              refine W.lcmp hx hb dX6_nextOne_50 ?_
              refine lv_if_ge (tgt := 56) hx hb dX6_nextOne_51 (by decide) (fun c9 => ?_) (fun c9 => ?_)
              · have c8 := gl_ge c9
                have bt240 : (bs.toInt = -1 ∧ ∀ j : Nat, (j : Int) < (k.toInt + 1) → ¬ inr (rN σ0 this) (rps (zJ σ0 rW)) j) ∨ (∃ (b : Nat) (c : Int), bs.toInt = b ∧ (b : Int) < (k.toInt + 1) ∧ inr (rN σ0 this) (rps (zJ σ0 rW)) b ∧ CO (rN σ0 this) (plf (zI σ0 rP)) ((zJ σ0 rW) 0).toInt ((zJ σ0 rW) 1).toInt (rps (zJ σ0 rW)) b c ∧ ∀ j : Nat, (j : Int) < (k.toInt + 1) → inr (rN σ0 this) (rps (zJ σ0 rW)) j → ∀ c', CO (rN σ0 this) (plf (zI σ0 rP)) ((zJ σ0 rW) 0).toInt ((zJ σ0 rW) 1).toInt (rps (zJ σ0 rW)) j c' → c ≤ c' ∧ (j < b → c < c')) := Or.inr ⟨b9, cx9, eb9, by omega, ib9, co9, fun j j1 j2 c2 j3 => by
                  by_cases e9 : j = ix k
                  · rw [e9] at j3 ⊢
                    have z9 := j3.one ck9
                    omega
                  · exact le9 j (by omega) j2 c2 j3⟩
                obtain ⟨t241, qt241⟩ : ∃ zz9 : Int32, k + Int32.ofInt 1 = zz9 := ⟨_, rfl⟩
                refine lv_iinc (v := t241) (lv' := [(2, .int t241), (1, .int bs), (0, .ref this)]) hx hb dX6_nextOne_56 hl (k := 1) rfl qt241 (by decide) rfl (fun ls hl => ?_)
                have ht241 : t241.toInt = k.toInt + 1 := by rw [← qt241]; exact v_addi rfl (show (Int32.ofInt 1).toInt = 1 from by decide) (by omega) (by omega)
                refine lv_goto (tgt := 17) hx hb dX6_nextOne_59 (by decide) ?_
                exact ih17 bs t241 _ _ _ _ hT  (by omega) (by omega) (by omega) (by rw [show t241.toInt = k.toInt + 1 from by omega]; exact bt240) (lv_sub hl [1, 0, 2] rfl) (by omega)
              · have c9 := gl_nge c9
                refine lv_iload_n hx hb dX6_nextOne_54 rfl (lv_at hl 1 rfl) ?_
                refine lv_istore_n (lv' := [(1, .int k), (2, .int k), (0, .ref this)]) hx hb dX6_nextOne_55 rfl hl (by decide) rfl (fun ls hl => ?_)
                have bt242 : (k.toInt = -1 ∧ ∀ j : Nat, (j : Int) < (k.toInt + 1) → ¬ inr (rN σ0 this) (rps (zJ σ0 rW)) j) ∨ (∃ (b : Nat) (c : Int), k.toInt = b ∧ (b : Int) < (k.toInt + 1) ∧ inr (rN σ0 this) (rps (zJ σ0 rW)) b ∧ CO (rN σ0 this) (plf (zI σ0 rP)) ((zJ σ0 rW) 0).toInt ((zJ σ0 rW) 1).toInt (rps (zJ σ0 rW)) b c ∧ ∀ j : Nat, (j : Int) < (k.toInt + 1) → inr (rN σ0 this) (rps (zJ σ0 rW)) j → ∀ c', CO (rN σ0 this) (plf (zI σ0 rP)) ((zJ σ0 rW) 0).toInt ((zJ σ0 rW) 1).toInt (rps (zJ σ0 rW)) j c' → c ≤ c' ∧ (j < b → c < c')) := Or.inr ⟨ix k, _, i_k.symm, by omega, in9 (by omega), ck9, fun j j1 j2 c2 j3 => by
                  by_cases e9 : j = ix k
                  · rw [e9] at j3
                    have z9 := j3.one ck9
                    omega
                  · have z9 := le9 j (by omega) j2 c2 j3
                    omega⟩
                obtain ⟨t243, qt243⟩ : ∃ zz9 : Int32, k + Int32.ofInt 1 = zz9 := ⟨_, rfl⟩
                refine lv_iinc (v := t243) (lv' := [(2, .int t243), (1, .int k), (0, .ref this)]) hx hb dX6_nextOne_56 hl (k := 1) rfl qt243 (by decide) rfl (fun ls hl => ?_)
                have ht243 : t243.toInt = k.toInt + 1 := by rw [← qt243]; exact v_addi rfl (show (Int32.ofInt 1).toInt = 1 from by decide) (by omega) (by omega)
                refine lv_goto (tgt := 17) hx hb dX6_nextOne_59 (by decide) ?_
                exact ih17 k t243 _ _ _ _ hT  (by omega) (by omega) (by omega) (by rw [show t243.toInt = k.toInt + 1 from by omega]; exact bt242) (lv_sub hl [1, 0, 2] rfl) (by omega)
    exact loop17 ((48 - (1 : Int32).toInt).toNat + 1) (-1) 1 _ _ _ _ hT  (by omega) (by omega) (by omega) (Or.inl ⟨nm1, fun j j1 j2 => by have z9 := j2.1; omega⟩) (lv_sub hl [1, 0, 2] rfl) (by omega)
  · have c10 := gi_nlt c9
    refine lv_iconst (v := (-1)) hx hb dX6_nextOne_11 (by decide) ?_
    subst hQ9
    exact t_i hx hb hr hlocks hT (Or.inl ⟨nm1, Or.inl (by show ((rN σ0 this) : Int) - ((zJ σ0 (kR κ this 1)) 4).toInt.toNat ≤ _; rw [erW]; omega)⟩) dX6_nextOne_12

/-! The reference with its numbers: one lift -/
set_option maxHeartbeats 40000000 in
set_option maxRecDepth 100000 in
theorem X6v_lifts (l : Launch) (κ : Kt) (σ0 : Gh) (this : Nat) (i : Int32) {v wt la dt : Nat → Int} {rl u : Int} {ma pa q : Nat} (t_this : zk σ0 this 20) (h0 : RI κ σ0 this) (h1 : 0 < i.toInt) (h2 : i.toInt < (zI σ0 this 7).toInt - 1) (h3 : rlf (zJ σ0 (kR κ this 1)) (ix i) = -1) (h4 : RV (rN σ0 this) (zJ σ0 (kR κ this 1)) (v, wt, la, dt, ma)) (h5 : PIV (rN σ0 this) (plf (zI σ0 (kR κ this 5))) rl (v, wt, la, dt, ma)) (h6 : ((zJ σ0 (kR κ this 1)) 1).toInt = rl) (h7 : rl = 0 ∨ rl = 1 ∨ rl = 2) (h8 : ma ≤ 45) (h9 : ((zJ σ0 (kR κ this 1)) 2).toInt = u) (h10 : LN la (ix i) pa) (h11 : RN (rN σ0 this) la (ix i) q) : TC l yX6_lifts cX6_lifts 14 none 4 90 [.ref this, .int i] κ σ0 (tqv κ gW σ0 (fun (τ : Gh) => (RI κ τ this) ∧ (RV (rN σ0 this) (zJ τ (kR κ this 1)) (lft (plf (zI σ0 (kR κ this 5))) rl u (v, wt, la, dt, ma) (ix i) pa q)))) := by
  refine TC.of gW (by decide +kernel) (Nat.le_of_ble_eq_true rfl) ?_
  intro p e s m below meth c ls hcs hK hX hT hl
  obtain ⟨hx, hb, hr, hml, hown, hg, hlocks, hin⟩ := hcs
  have hown : s.vm.findClass RX6 = some m.cls := hown
  have hl : lv_has ls 14 [(0, .ref this), (1, .int i)] := hl
  have hT0 := hT
  have nm1 : ((-1) : Int32).toInt = (-1) := by decide
  have n0 : (0 : Int32).toInt = 0 := by decide
  have n1 : (1 : Int32).toInt = 1 := by decide
  have n2 : (2 : Int32).toInt = 2 := by decide
  have n3 : (3 : Int32).toInt = 3 := by decide
  have n4 : (4 : Int32).toInt = 4 := by decide
  have n5 : (5 : Int32).toInt = 5 := by decide
  have n6 : (6 : Int32).toInt = 6 := by decide
  have n7 : (7 : Int32).toInt = 7 := by decide
  have n8 : (8 : Int32).toInt = 8 := by decide
  have n9 : (9 : Int32).toInt = 9 := by decide
  have n53 : (53 : Int32).toInt = 53 := by decide
  have n101 : (101 : Int32).toInt = 101 := by decide
  have j1 : (1 : Int64).toInt = 1 := by decide
  have i_lo := Int32.le_toInt i
  have i_hi := Int32.toInt_lt i
  generalize hQ9 : tQ _ _ _ _ _ _ = Q9
  obtain ⟨rW, erW⟩ : ∃ z, kR κ this 1 = z := ⟨_, rfl⟩
  have trW : zk σ0 rW 21 := by rw [← erW]; exact h0.1.2.1
  obtain ⟨rP, erP⟩ : ∃ z, kR κ this 5 = z := ⟨_, rfl⟩
  have trP : zk σ0 rP 25 := by rw [← erP]; exact h0.1.2.2.2.2
  have hB0 := h0.b
  rw [erW] at hB0
  have hW := h0.2.1
  rw [erW] at hW
  have hP := h0.2.2.1
  rw [erP] at hP
  have hrN : (rN σ0 this : Int) = (zI σ0 this 7).toInt := by unfold rN; omega
  try simp only [erW, erP] at h3
  try simp only [erW, erP] at h4
  try simp only [erW, erP] at h5
  try simp only [erW, erP] at h6
  try simp only [erW, erP] at h9
  obtain ⟨rv1, rv2, rv3, rv4, rv5⟩ := h4.mi
  have i_i : (ix i : Int) = i.toInt := by unfold ix; omega
  have hpi := h10.1
  have hiq := h11.1.1
  have hqN := h11.1.2
  have hPI := hP.li
  have li9 : la (ix i) = -1 := by rw [← rv3 (ix i) (by omega)]; exact h3
  obtain ⟨s9, es9⟩ : ∃ z, z = shr (plf (zI σ0 rP)) wt rl (ix i) pa q := ⟨_, rfl⟩
  obtain ⟨E, eE⟩ : ∃ z, z = wt pa + s9 := ⟨_, rfl⟩
  obtain ⟨F, eF⟩ : ∃ z, z = wt q + wt (ix i) - s9 := ⟨_, rfl⟩
  obtain ⟨d, eD⟩ : ∃ z, z = v (ix i) - prd (plf (zI σ0 rP)) v rl (ix i) pa q := ⟨_, rfl⟩
  obtain ⟨⟨n1a, n1b⟩, ⟨n2a, n2b, n2c, n2d⟩, n3, n4, n5, n6⟩ := h5.num hPI h7 (by omega) li9 h10 h11 es9 eE eF eD
  have hBV := h4.bv h5 (show ma ≤ 46 by omega)
  have gq9 := h5.small (by omega) hqN h11.2.1
  have gp9 := h5.small (by omega) (show pa < rN σ0 this by omega) h10.2.1
  have vi9 := rv1 (ix i) (by omega)
  have vp9 := rv1 pa (by omega)
  have vq9 := rv1 q hqN
  have wi9 := rv2 (ix i) (by omega)
  have wp9 := rv2 pa (by omega)
  have wq9 := rv2 q hqN
  refine lv_aload_n hx hb dX6_lifts_0 rfl (lv_at hl 0 rfl) ?_
  have hTo := hT
  refine tVi (n := 0) (As := []) (rest := []) hx hb hml hown hg hT hK hX (X6_steps l κ σ0 this  (hT.k t_this (by decide)) h0) sub_fE_gW (mwV k1416 k1418 k52 k92 k1419) ⟨rfl, by decide, by decide, by decide +kernel⟩ ⟨(Nat.le_of_ble_eq_true rfl), (Nat.le_of_ble_eq_true rfl)⟩ (hT.o20 (hT.k t_this (by decide))) rfl rfl hl.1 rfl (Nat.le_of_ble_eq_true rfl) dX6_lifts_1 zroom.rf (fun x201 s202 H locs hφ hEs202 hT => ?_)
  have E203 : zJ s202 rW = zJ σ0 rW := funext fun k => (hTo.k trW (by decide)).eJ hEs202 (by decide) rfl
  have R204 : RI κ s202 this := h0.ext hEs202 ⟨rfl, rfl, fun _ => rfl, fun _ => rfl, fun _ => rfl, fun _ => rfl⟩
  have B205 := R204.b
  rw [erW] at B205
  have K206 : zI s202 this 7 = zI σ0 this 7 := hT.eI t_this (by decide) rfl rfl
  have K206n : (zI s202 this 7).toInt = (zI σ0 this 7).toInt := by rw [K206]
  have K206r : rN s202 this = rN σ0 this := by unfold rN; rw [K206]
  have J207 : zJ s202 rW = zJ σ0 rW := by rw [E203]
  have P208 : zI s202 rP = zI σ0 rP := funext fun k => hT.eI trP (by decide) rfl rfl
  try simp only [K206, K206r, J207, P208] at B205
  have f209 := hφ
  try simp only [erW, erP, ix_0, ix_1, ix_2, ix_3, ix_4, ix_5, ix_6, ix_7, ix_8, ix_9, K206, K206r, J207, P208] at f209
  refine lv_istore_n (lv' := [(2, .int x201), (0, .ref this), (1, .int i)]) hx hb dX6_lifts_4 rfl hl (by decide) rfl (fun ls hl => ?_)
  refine lv_aload_n hx hb dX6_lifts_5 rfl (lv_at hl 1 rfl) ?_
  refine lv_iload_n hx hb dX6_lifts_6 rfl (lv_at hl 2 rfl) ?_
  refine lv_iconst (v := (-1)) hx hb dX6_lifts_7 (by decide) ?_
  have hTo := hT
  refine tVi (n := 2) (As := [.int i, .int (-1)]) (rest := []) hx hb hml hown hg hT hK hX (X6v_besideL l κ s202 this i (-1)  (hT.k t_this (by decide)) R204 (by omega) (by omega) (by omega)) sub_fE_gW (mwV k1449 k1451 k58 k92 k1452) ⟨rfl, by decide, by decide, by decide +kernel⟩ ⟨(Nat.le_of_ble_eq_true rfl), (Nat.le_of_ble_eq_true rfl)⟩ (hT.o20 (hT.k t_this (by decide))) rfl rfl hl.1 rfl (Nat.le_of_ble_eq_true rfl) dX6_lifts_8 zroom.rf (fun x210 s211 H locs hφ hEs211 hT => ?_)
  have E212 : zJ s211 rW = zJ s202 rW := funext fun k => (hTo.k trW (by decide)).eJ hEs211 (by decide) rfl
  have R213 : RI κ s211 this := R204.ext hEs211 ⟨rfl, rfl, fun _ => rfl, fun _ => rfl, fun _ => rfl, fun _ => rfl⟩
  have B214 := R213.b
  rw [erW] at B214
  have K215 : zI s211 this 7 = zI σ0 this 7 := hT.eI t_this (by decide) rfl rfl
  have K215n : (zI s211 this 7).toInt = (zI σ0 this 7).toInt := by rw [K215]
  have K215r : rN s211 this = rN σ0 this := by unfold rN; rw [K215]
  have J216 : zJ s211 rW = zJ σ0 rW := by rw [E212, E203]
  have P217 : zI s211 rP = zI σ0 rP := funext fun k => hT.eI trP (by decide) rfl rfl
  try simp only [K215, K215r, J216, P217] at B214
  have f218 := hφ
  try simp only [erW, erP, ix_0, ix_1, ix_2, ix_3, ix_4, ix_5, ix_6, ix_7, ix_8, ix_9, K206, K206r, J207, P208, K215, K215r, J216, P217] at f218
  have xp : x210.toInt = pa := by
    obtain ⟨p9, f8, f9⟩ := f218
    rw [f8, (f9.cg (l' := la) (fun j hj => (rv3 j (by omega)).symm)).one h10]
  have ep : ix x210 = pa := ixof (by omega)
  have gp8 : rlf (zJ σ0 rW) (ix x210) = -1 := by rw [ep, rv3 pa (by omega)]; exact h10.2.1
  refine lv_istore_n (lv' := [(3, .int x210), (2, .int x201), (0, .ref this), (1, .int i)]) hx hb dX6_lifts_11 rfl hl (by decide) rfl (fun ls hl => ?_)
  refine lv_aload_n hx hb dX6_lifts_12 rfl (lv_at hl 2 rfl) ?_
  refine lv_iload_n hx hb dX6_lifts_13 rfl (lv_at hl 3 rfl) ?_
  refine lv_iconst (v := 1) hx hb dX6_lifts_14 (by decide) ?_
  have hTo := hT
  refine tVi (n := 2) (As := [.int i, .int 1]) (rest := []) hx hb hml hown hg hT hK hX (X6v_besideR l κ s211 this i 1  (hT.k t_this (by decide)) R213 (by omega) (by omega) (by omega)) sub_fE_gW (mwV k1449 k1451 k58 k92 k1452) ⟨rfl, by decide, by decide, by decide +kernel⟩ ⟨(Nat.le_of_ble_eq_true rfl), (Nat.le_of_ble_eq_true rfl)⟩ (hT.o20 (hT.k t_this (by decide))) rfl rfl hl.1 rfl (Nat.le_of_ble_eq_true rfl) dX6_lifts_15 zroom.rf (fun x219 s220 H locs hφ hEs220 hT => ?_)
  have E221 : zJ s220 rW = zJ s211 rW := funext fun k => (hTo.k trW (by decide)).eJ hEs220 (by decide) rfl
  have R222 : RI κ s220 this := R213.ext hEs220 ⟨rfl, rfl, fun _ => rfl, fun _ => rfl, fun _ => rfl, fun _ => rfl⟩
  have B223 := R222.b
  rw [erW] at B223
  have K224 : zI s220 this 7 = zI σ0 this 7 := hT.eI t_this (by decide) rfl rfl
  have K224n : (zI s220 this 7).toInt = (zI σ0 this 7).toInt := by rw [K224]
  have K224r : rN s220 this = rN σ0 this := by unfold rN; rw [K224]
  have J225 : zJ s220 rW = zJ σ0 rW := by rw [E221, E212, E203]
  have P226 : zI s220 rP = zI σ0 rP := funext fun k => hT.eI trP (by decide) rfl rfl
  try simp only [K224, K224r, J225, P226] at B223
  have f227 := hφ
  try simp only [erW, erP, ix_0, ix_1, ix_2, ix_3, ix_4, ix_5, ix_6, ix_7, ix_8, ix_9, K215, K215r, J216, P217, K224, K224r, J225, P226] at f227
  have xq : x219.toInt = q := by
    obtain ⟨q9, f8, f9⟩ := f227
    rw [f8, (f9.cg (l' := la) (fun j hj => (rv3 j hj).symm)).one h11]
  have eq : ix x219 = q := ixof (by omega)
  have gq8 : rlf (zJ σ0 rW) (ix x219) = -1 := by rw [eq, rv3 q hqN]; exact h11.2.1
  have vp8 : rvl (zJ σ0 rW) (ix x210) = v pa := by rw [ep]; exact vp9
  have wp8 : rwt (zJ σ0 rW) (ix x210) = wt pa := by rw [ep]; exact wp9
  have vq8 : rvl (zJ σ0 rW) (ix x219) = v q := by rw [eq]; exact vq9
  have wq8 : rwt (zJ σ0 rW) (ix x219) = wt q := by rw [eq]; exact wq9
  refine lv_istore (lv' := [(4, .int x219), (3, .int x210), (2, .int x201), (0, .ref this), (1, .int i)]) hx hb dX6_lifts_18 hl (by decide) rfl (fun ls hl => ?_)
  have u_i : ix i < 48 := by unfold ix; omega
  have u_x210 : ix x210 < 48 := by unfold ix; omega
  have u_x219 : ix x219 < 48 := by unfold ix; omega
  have n_i_x210 : ix i ≠ ix x210 := by unfold ix; omega
  have n_i_x219 : ix i ≠ ix x219 := by unfold ix; omega
  have n_x210_i : ix x210 ≠ ix i := by unfold ix; omega
  have n_x210_x219 : ix x210 ≠ ix x219 := by unfold ix; omega
  have n_x219_i : ix x219 ≠ ix i := by unfold ix; omega
  have n_x219_x210 : ix x219 ≠ ix x210 := by unfold ix; omega
  have i_i : (ix i : Int) = i.toInt := by unfold ix; omega
  have i_x210 : (ix x210 : Int) = x210.toInt := by unfold ix; omega
  have i_x219 : (ix x219 : Int) = x219.toInt := by unfold ix; omega
  have i_x201 : (ix x201 : Int) = x201.toInt := by unfold ix; omega
  have gp : rlf (zJ σ0 rW) (ix x210) = -1 := by omega
  have gq : rlf (zJ σ0 rW) (ix x219) = -1 := by omega
  have g3 := hW.three (k := ix i) (p := ix x210) (q := ix x219) ⟨by omega, by omega, by omega⟩ (by omega) gp gq
  have g4 := hW.lt (k := ix i) (by omega) (by omega) (by omega)
  refine lv_aload_n hx hb dX6_lifts_20 rfl (lv_at hl 3 rfl) ?_
  refine va_get (D := κ.1) (ci := 6) (v := .ref (kR κ this 1)) (C := RX6) (T := TX6) (N := 27) hx hb hg inX6 hown hK (hT.o20 (hT.k t_this (by decide))).one 0 rfl rfl 1 (by decide) (hg _ k1220) (fun _ h9 => h9) rfl dX6_lifts_21 ?_
  rw [erW]
  refine lv_iconst (v := 1) hx hb dX6_lifts_24 (by decide) ?_
  refine va_lald hx hb hK (hT.o21 (hT.k trW (by decide))).one 0 1 rfl rfl (g_in (by omega) (by omega)) dX6_lifts_25 ?_
  refine lv_topl (fun t228 ht228 => ?_)
  have xt228 : (zJ s220 rW 1).toInt = t228.toInt := by rw [ht228]; exact congrArg (fun q9 => (zJ s220 rW q9).toInt) (show 1 = ix 1 from by decide)
  have yt228 : t228.toInt = (zJ σ0 rW 1).toInt := by rw [← xt228]; show (zJ s220 rW (1)).toInt = _; rw [E221, E212, E203]
  refine lv_l2i hx hb dX6_lifts_26 rfl ?_
  first | refine g_l2i (by omega) (by omega) (fun t229 ht229 => ?_) | refine lv_topi (fun t229 ht229 => ?_)
  refine lv_istore (lv' := [(5, .int t229), (4, .int x219), (3, .int x210), (2, .int x201), (0, .ref this), (1, .int i)]) hx hb dX6_lifts_27 hl (by decide) rfl (fun ls hl => ?_)
  refine lv_aload_n hx hb dX6_lifts_29 rfl (lv_at hl 4 rfl) ?_
  refine lv_iload_n hx hb dX6_lifts_30 rfl (lv_at hl 5 rfl) ?_
  have hTo := hT
  refine tVl (n := 1) (As := [.int i]) (rest := []) hx hb hml hown hg hT hK hX (X6v_detailOf l κ s220 this i  (hT.k t_this (by decide)) R222 (by omega) (by omega) (by rw [erW, J225]; exact h3) (by rw [erW, J225, show rN s220 this = rN σ0 this from by unfold rN; rw [hT.eI t_this (by decide) rfl rfl]]; exact hBV) (by rw [erW, J225]; omega)) sub_fE_gW (mwV k1535 k1537 k66 k92 k1538) ⟨rfl, by decide, by decide, by decide +kernel⟩ ⟨(Nat.le_of_ble_eq_true rfl), (Nat.le_of_ble_eq_true rfl)⟩ (hT.o20 (hT.k t_this (by decide))) rfl rfl hl.1 rfl (Nat.le_of_ble_eq_true rfl) dX6_lifts_31 zroom.rf (fun x230 s231 H locs hφ hEs231 hT => ?_)
  have E232 : zJ s231 rW = zJ s220 rW := funext fun k => (hTo.k trW (by decide)).eJ hEs231 (by decide) rfl
  have R233 : RI κ s231 this := R222.ext hEs231 ⟨rfl, rfl, fun _ => rfl, fun _ => rfl, fun _ => rfl, fun _ => rfl⟩
  have B234 := R233.b
  rw [erW] at B234
  have K235 : zI s231 this 7 = zI σ0 this 7 := hT.eI t_this (by decide) rfl rfl
  have K235n : (zI s231 this 7).toInt = (zI σ0 this 7).toInt := by rw [K235]
  have K235r : rN s231 this = rN σ0 this := by unfold rN; rw [K235]
  have J236 : zJ s231 rW = zJ σ0 rW := by rw [E232, E221, E212, E203]
  have P237 : zI s231 rP = zI σ0 rP := funext fun k => hT.eI trP (by decide) rfl rfl
  try simp only [K235, K235r, J236, P237] at B234
  have f238 := hφ
  try simp only [erW, erP, ix_0, ix_1, ix_2, ix_3, ix_4, ix_5, ix_6, ix_7, ix_8, ix_9, K224, K224r, J225, P226, K235, K235r, J236, P237] at f238
  have xd : x230.toInt = d := by
    obtain ⟨p9, q9, f7, f8, f9, -, -⟩ := f238
    rw [(f7.cg (l' := la) (fun j hj => (rv3 j (by omega)).symm)).one h10, (f8.cg (l' := la) (fun j hj => (rv3 j hj).symm)).one h11, h6] at f9
    rw [f9, eD]
    exact dtl_cg (X' := (v, wt, la, dt, ma)) rfl rfl rfl (rv1 pa (by omega)) (rv1 q hqN) (rv1 (ix i) (by omega))
  refine lv_lstore (lv' := [(6, .long x230), (5, .int t229), (4, .int x219), (3, .int x210), (2, .int x201), (0, .ref this), (1, .int i)]) hx hb dX6_lifts_34 hl (by decide) rfl (fun ls hl => ?_)
  refine lv_aload_n hx hb dX6_lifts_36 rfl (lv_at hl 5 rfl) ?_
  refine lv_iload_n hx hb dX6_lifts_37 rfl (lv_at hl 6 rfl) ?_
  refine lv_iload_n hx hb dX6_lifts_38 rfl (lv_at hl 3 rfl) ?_
  refine lv_iload hx hb dX6_lifts_39 (lv_at hl 2 rfl) ?_
  refine lv_iload hx hb dX6_lifts_41 (lv_at hl 1 rfl) ?_
  have hTo := hT
  refine tVl (n := 4) (As := [.int i, .int x210, .int x219, .int t229]) (rest := []) hx hb hml hown hg hT hK hX (X6v_shareOf l κ s231 this i x210 x219 t229  (hT.k t_this (by decide)) R233 (by omega) (by omega) (by omega) (by omega) (by omega) (by rw [erW, J236]; omega) (by rw [erW, J236]; omega)) sub_fE_gW (mwV k1596 k1598 k73 k92 k1599) ⟨rfl, by decide, by decide, by decide +kernel⟩ ⟨(Nat.le_of_ble_eq_true rfl), (Nat.le_of_ble_eq_true rfl)⟩ (hT.o20 (hT.k t_this (by decide))) rfl rfl hl.1 rfl (Nat.le_of_ble_eq_true rfl) dX6_lifts_43 zroom.rf (fun x239 s240 H locs hφ hEs240 hT => ?_)
  have E241 : zJ s240 rW = zJ s231 rW := funext fun k => (hTo.k trW (by decide)).eJ hEs240 (by decide) rfl
  have R242 : RI κ s240 this := R233.ext hEs240 ⟨rfl, rfl, fun _ => rfl, fun _ => rfl, fun _ => rfl, fun _ => rfl⟩
  have B243 := R242.b
  rw [erW] at B243
  have K244 : zI s240 this 7 = zI σ0 this 7 := hT.eI t_this (by decide) rfl rfl
  have K244n : (zI s240 this 7).toInt = (zI σ0 this 7).toInt := by rw [K244]
  have K244r : rN s240 this = rN σ0 this := by unfold rN; rw [K244]
  have J245 : zJ s240 rW = zJ σ0 rW := by rw [E241, E232, E221, E212, E203]
  have P246 : zI s240 rP = zI σ0 rP := funext fun k => hT.eI trP (by decide) rfl rfl
  try simp only [K244, K244r, J245, P246] at B243
  obtain ⟨f247, f248, f249⟩ := hφ
  try simp only [erW, erP, ix_0, ix_1, ix_2, ix_3, ix_4, ix_5, ix_6, ix_7, ix_8, ix_9, K235, K235r, J236, P237, K244, K244r, J245, P246] at f247
  try simp only [erW, erP, ix_0, ix_1, ix_2, ix_3, ix_4, ix_5, ix_6, ix_7, ix_8, ix_9, K235, K235r, J236, P237, K244, K244r, J245, P246] at f248
  try simp only [erW, erP, ix_0, ix_1, ix_2, ix_3, ix_4, ix_5, ix_6, ix_7, ix_8, ix_9, K235, K235r, J236, P237, K244, K244r, J245, P246] at f249
  rw [ep, eq] at f247
  have xmd : t229.toInt = rl := by omega
  have xs : x239.toInt = s9 := by rw [f247, xmd, es9]; exact shr_cg rfl rfl rfl (rv2 (ix i) (by omega))
  refine lv_lstore (lv' := [(8, .long x239), (6, .long x230), (5, .int t229), (4, .int x219), (3, .int x210), (2, .int x201), (0, .ref this), (1, .int i)]) hx hb dX6_lifts_46 hl (by decide) rfl (fun ls hl => ?_)
  clear B205 K206n B214 K215n B223 K224n B234 K235n B243 K244n
  refine lv_aload_n hx hb dX6_lifts_48 rfl (lv_at hl 6 rfl) ?_
  refine lv_iload_n hx hb dX6_lifts_49 rfl (lv_at hl 5 rfl) ?_
  refine lv_iconst (v := 0) hx hb dX6_lifts_50 (by decide) ?_
  refine lv_iload_n hx hb dX6_lifts_51 rfl (lv_at hl 7 rfl) ?_
  refine lv_i2l hx hb dX6_lifts_52 rfl ?_
  refine g_i2l (fun t250 ht250 => ?_)
  have hTo := hT
  refine tVv (n := 3) (As := [.int x201, .int 0, .long t250]) (rest := []) hx hb hml hown hg hT hK hX (X6_put l κ s240 this x201 0 t250  (hT.k t_this (by decide)) (by omega) (by omega) (by omega) (by omega)) (fun _ _ h => h) (mwV k1600 k1602 k74 k92 k1603) ⟨rfl, by decide, by decide, by decide +kernel⟩ ⟨(Nat.le_of_ble_eq_true rfl), (Nat.le_of_ble_eq_true rfl)⟩ (hT.o20 (hT.k t_this (by decide))) rfl rfl hl.1 rfl (Nat.le_of_ble_eq_true rfl) dX6_lifts_53 zroom.rf (fun s252 H locs hφ hEs252 hT => ?_)
  have f255 := hφ
  try simp only [erW, erP, ix_0, ix_1, ix_2, ix_3, ix_4, ix_5, ix_6, ix_7, ix_8, ix_9, K244, K244r, J245, P246] at f255
  have E256 : zJ s252 rW = vp_updL (zJ s240 rW) (149 + 10 * ix x201 + 0) t250 := by rw [J245]; exact f255
  refine lv_aload_n hx hb dX6_lifts_56 rfl (lv_at hl 6 rfl) ?_
  refine lv_iload_n hx hb dX6_lifts_57 rfl (lv_at hl 5 rfl) ?_
  refine lv_iconst (v := 1) hx hb dX6_lifts_58 (by decide) ?_
  refine lv_iload_n hx hb dX6_lifts_59 rfl (lv_at hl 4 rfl) ?_
  refine lv_i2l hx hb dX6_lifts_60 rfl ?_
  refine g_i2l (fun t257 ht257 => ?_)
  have hTo := hT
  refine tVv (n := 3) (As := [.int x201, .int 1, .long t257]) (rest := []) hx hb hml hown hg hT hK hX (X6_put l κ s252 this x201 1 t257  (hT.k t_this (by decide)) (by omega) (by omega) (by omega) (by omega)) (fun _ _ h => h) (mwV k1600 k1602 k74 k92 k1603) ⟨rfl, by decide, by decide, by decide +kernel⟩ ⟨(Nat.le_of_ble_eq_true rfl), (Nat.le_of_ble_eq_true rfl)⟩ (hT.o20 (hT.k t_this (by decide))) rfl rfl hl.1 rfl (Nat.le_of_ble_eq_true rfl) dX6_lifts_61 zroom.rf (fun s259 H locs hφ hEs259 hT => ?_)
  have f261 := hφ
  try simp only [erW, erP, ix_0, ix_1, ix_2, ix_3, ix_4, ix_5, ix_6, ix_7, ix_8, ix_9] at f261
  have E262 : zJ s259 rW = vp_updL (zJ s252 rW) (149 + 10 * ix x201 + 1) t257 := f261
  refine lv_aload_n hx hb dX6_lifts_64 rfl (lv_at hl 6 rfl) ?_
  refine lv_iload_n hx hb dX6_lifts_65 rfl (lv_at hl 5 rfl) ?_
  refine lv_iconst (v := 2) hx hb dX6_lifts_66 (by decide) ?_
  refine lv_iload hx hb dX6_lifts_67 (lv_at hl 3 rfl) ?_
  refine lv_i2l hx hb dX6_lifts_69 rfl ?_
  refine g_i2l (fun t263 ht263 => ?_)
  have hTo := hT
  refine tVv (n := 3) (As := [.int x201, .int 2, .long t263]) (rest := []) hx hb hml hown hg hT hK hX (X6_put l κ s259 this x201 2 t263  (hT.k t_this (by decide)) (by omega) (by omega) (by omega) (by omega)) (fun _ _ h => h) (mwV k1600 k1602 k74 k92 k1603) ⟨rfl, by decide, by decide, by decide +kernel⟩ ⟨(Nat.le_of_ble_eq_true rfl), (Nat.le_of_ble_eq_true rfl)⟩ (hT.o20 (hT.k t_this (by decide))) rfl rfl hl.1 rfl (Nat.le_of_ble_eq_true rfl) dX6_lifts_70 zroom.rf (fun s265 H locs hφ hEs265 hT => ?_)
  have f267 := hφ
  try simp only [erW, erP, ix_0, ix_1, ix_2, ix_3, ix_4, ix_5, ix_6, ix_7, ix_8, ix_9] at f267
  have E268 : zJ s265 rW = vp_updL (zJ s259 rW) (149 + 10 * ix x201 + 2) t263 := f267
  refine lv_aload_n hx hb dX6_lifts_73 rfl (lv_at hl 6 rfl) ?_
  refine lv_iload_n hx hb dX6_lifts_74 rfl (lv_at hl 5 rfl) ?_
  refine lv_iconst (v := 3) hx hb dX6_lifts_75 (by decide) ?_
  refine lv_lload hx hb dX6_lifts_76 (lv_at hl 1 rfl) ?_
  have hTo := hT
  refine tVv (n := 3) (As := [.int x201, .int 3, .long x230]) (rest := []) hx hb hml hown hg hT hK hX (X6_put l κ s265 this x201 3 x230  (hT.k t_this (by decide)) (by omega) (by omega) (by omega) (by omega)) (fun _ _ h => h) (mwV k1600 k1602 k74 k92 k1603) ⟨rfl, by decide, by decide, by decide +kernel⟩ ⟨(Nat.le_of_ble_eq_true rfl), (Nat.le_of_ble_eq_true rfl)⟩ (hT.o20 (hT.k t_this (by decide))) rfl rfl hl.1 rfl (Nat.le_of_ble_eq_true rfl) dX6_lifts_78 zroom.rf (fun s270 H locs hφ hEs270 hT => ?_)
  have f272 := hφ
  try simp only [erW, erP, ix_0, ix_1, ix_2, ix_3, ix_4, ix_5, ix_6, ix_7, ix_8, ix_9] at f272
  have E273 : zJ s270 rW = vp_updL (zJ s265 rW) (149 + 10 * ix x201 + 3) x230 := f272
  refine lv_aload_n hx hb dX6_lifts_81 rfl (lv_at hl 6 rfl) ?_
  refine lv_iload_n hx hb dX6_lifts_82 rfl (lv_at hl 5 rfl) ?_
  refine lv_iconst (v := 4) hx hb dX6_lifts_83 (by decide) ?_
  refine lv_aload_n hx hb dX6_lifts_84 rfl (lv_at hl 6 rfl) ?_
  refine va_get (D := κ.1) (ci := 6) (v := .ref (kR κ this 1)) (C := RX6) (T := TX6) (N := 27) hx hb hg inX6 hown hK (hT.o20 (hT.k t_this (by decide))).one 0 rfl rfl 1 (by decide) (hg _ k1220) (fun _ h9 => h9) rfl dX6_lifts_85 ?_
  rw [erW]
  refine lv_bipush (v := 53) hx hb dX6_lifts_88 (by decide) ?_
  refine lv_iload_n hx hb dX6_lifts_90 rfl (lv_at hl 7 rfl) ?_
  refine lv_iadd hx hb dX6_lifts_91 ?_
  first | refine g_add (by omega) (by omega) (fun t274 ht274 => ?_) | refine lv_topi (fun t274 ht274 => ?_)
  refine va_lald hx hb hK (hT.o21 (hT.k trW (by decide))).one 0 1 rfl rfl (g_in (by omega) (by omega)) dX6_lifts_92 ?_
  refine lv_topl (fun t275 ht275 => ?_)
  have xt275 : rwt (zJ s270 rW) (ix i) = t275.toInt := by rw [ht275]; exact congrArg (fun q9 => (zJ s270 rW q9).toInt) (show 53 + ix i = ix t274 from by unfold ix; omega)
  have yt275 : t275.toInt = rwt (zJ σ0 rW) (ix i) := by rw [← xt275]; show (zJ s270 rW (53 + ix i)).toInt = _; rw [E273, un (d53_r u_i), E268, un (d53_r u_i), E262, un (d53_r u_i), E256, un (d53_r u_i), E241, E232, E221, E212, E203]; try rfl
  have hTo := hT
  refine tVv (n := 3) (As := [.int x201, .int 4, .long t275]) (rest := []) hx hb hml hown hg hT hK hX (X6_put l κ s270 this x201 4 t275  (hT.k t_this (by decide)) (by omega) (by omega) (by omega) (by omega)) (fun _ _ h => h) (mwV k1600 k1602 k74 k92 k1603) ⟨rfl, by decide, by decide, by decide +kernel⟩ ⟨(Nat.le_of_ble_eq_true rfl), (Nat.le_of_ble_eq_true rfl)⟩ (hT.o20 (hT.k t_this (by decide))) rfl rfl hl.1 rfl (Nat.le_of_ble_eq_true rfl) dX6_lifts_93 zroom.rf (fun s277 H locs hφ hEs277 hT => ?_)
  have f279 := hφ
  try simp only [erW, erP, ix_0, ix_1, ix_2, ix_3, ix_4, ix_5, ix_6, ix_7, ix_8, ix_9] at f279
  have E280 : zJ s277 rW = vp_updL (zJ s270 rW) (149 + 10 * ix x201 + 4) t275 := f279
  clear xt275 ht275 ht274
  refine lv_aload_n hx hb dX6_lifts_96 rfl (lv_at hl 6 rfl) ?_
  refine lv_iload_n hx hb dX6_lifts_97 rfl (lv_at hl 5 rfl) ?_
  refine lv_iconst (v := 5) hx hb dX6_lifts_98 (by decide) ?_
  refine lv_lload hx hb dX6_lifts_99 (lv_at hl 0 rfl) ?_
  have hTo := hT
  refine tVv (n := 3) (As := [.int x201, .int 5, .long x239]) (rest := []) hx hb hml hown hg hT hK hX (X6_put l κ s277 this x201 5 x239  (hT.k t_this (by decide)) (by omega) (by omega) (by omega) (by omega)) (fun _ _ h => h) (mwV k1600 k1602 k74 k92 k1603) ⟨rfl, by decide, by decide, by decide +kernel⟩ ⟨(Nat.le_of_ble_eq_true rfl), (Nat.le_of_ble_eq_true rfl)⟩ (hT.o20 (hT.k t_this (by decide))) rfl rfl hl.1 rfl (Nat.le_of_ble_eq_true rfl) dX6_lifts_101 zroom.rf (fun s282 H locs hφ hEs282 hT => ?_)
  have f284 := hφ
  try simp only [erW, erP, ix_0, ix_1, ix_2, ix_3, ix_4, ix_5, ix_6, ix_7, ix_8, ix_9] at f284
  have E285 : zJ s282 rW = vp_updL (zJ s277 rW) (149 + 10 * ix x201 + 5) x239 := f284
  refine lv_aload_n hx hb dX6_lifts_104 rfl (lv_at hl 6 rfl) ?_
  refine lv_iload_n hx hb dX6_lifts_105 rfl (lv_at hl 5 rfl) ?_
  refine lv_bipush (v := 6) hx hb dX6_lifts_106 (by decide) ?_
  refine lv_aload_n hx hb dX6_lifts_108 rfl (lv_at hl 6 rfl) ?_
  refine va_get (D := κ.1) (ci := 6) (v := .ref (kR κ this 1)) (C := RX6) (T := TX6) (N := 27) hx hb hg inX6 hown hK (hT.o20 (hT.k t_this (by decide))).one 0 rfl rfl 1 (by decide) (hg _ k1220) (fun _ h9 => h9) rfl dX6_lifts_109 ?_
  rw [erW]
  refine lv_bipush (v := 53) hx hb dX6_lifts_112 (by decide) ?_
  refine lv_iload_n hx hb dX6_lifts_114 rfl (lv_at hl 4 rfl) ?_
  refine lv_iadd hx hb dX6_lifts_115 ?_
  first | refine g_add (by omega) (by omega) (fun t286 ht286 => ?_) | refine lv_topi (fun t286 ht286 => ?_)
  refine va_lald hx hb hK (hT.o21 (hT.k trW (by decide))).one 0 1 rfl rfl (g_in (by omega) (by omega)) dX6_lifts_116 ?_
  refine lv_topl (fun t287 ht287 => ?_)
  have xt287 : rwt (zJ s282 rW) (ix x210) = t287.toInt := by rw [ht287]; exact congrArg (fun q9 => (zJ s282 rW q9).toInt) (show 53 + ix x210 = ix t286 from by unfold ix; omega)
  have yt287 : t287.toInt = rwt (zJ σ0 rW) (ix x210) := by rw [← xt287]; show (zJ s282 rW (53 + ix x210)).toInt = _; rw [E285, un (d53_r u_x210), E280, un (d53_r u_x210), E273, un (d53_r u_x210), E268, un (d53_r u_x210), E262, un (d53_r u_x210), E256, un (d53_r u_x210), E241, E232, E221, E212, E203]; try rfl
  have hTo := hT
  refine tVv (n := 3) (As := [.int x201, .int 6, .long t287]) (rest := []) hx hb hml hown hg hT hK hX (X6_put l κ s282 this x201 6 t287  (hT.k t_this (by decide)) (by omega) (by omega) (by omega) (by omega)) (fun _ _ h => h) (mwV k1600 k1602 k74 k92 k1603) ⟨rfl, by decide, by decide, by decide +kernel⟩ ⟨(Nat.le_of_ble_eq_true rfl), (Nat.le_of_ble_eq_true rfl)⟩ (hT.o20 (hT.k t_this (by decide))) rfl rfl hl.1 rfl (Nat.le_of_ble_eq_true rfl) dX6_lifts_117 zroom.rf (fun s289 H locs hφ hEs289 hT => ?_)
  have f291 := hφ
  try simp only [erW, erP, ix_0, ix_1, ix_2, ix_3, ix_4, ix_5, ix_6, ix_7, ix_8, ix_9] at f291
  have E292 : zJ s289 rW = vp_updL (zJ s282 rW) (149 + 10 * ix x201 + 6) t287 := f291
  clear xt287 ht287 ht286
  refine lv_aload_n hx hb dX6_lifts_120 rfl (lv_at hl 6 rfl) ?_
  refine lv_iload_n hx hb dX6_lifts_121 rfl (lv_at hl 5 rfl) ?_
  refine lv_bipush (v := 7) hx hb dX6_lifts_122 (by decide) ?_
  refine lv_aload_n hx hb dX6_lifts_124 rfl (lv_at hl 6 rfl) ?_
  refine va_get (D := κ.1) (ci := 6) (v := .ref (kR κ this 1)) (C := RX6) (T := TX6) (N := 27) hx hb hg inX6 hown hK (hT.o20 (hT.k t_this (by decide))).one 0 rfl rfl 1 (by decide) (hg _ k1220) (fun _ h9 => h9) rfl dX6_lifts_125 ?_
  rw [erW]
  refine lv_bipush (v := 53) hx hb dX6_lifts_128 (by decide) ?_
  refine lv_iload hx hb dX6_lifts_130 (lv_at hl 3 rfl) ?_
  refine lv_iadd hx hb dX6_lifts_132 ?_
  first | refine g_add (by omega) (by omega) (fun t293 ht293 => ?_) | refine lv_topi (fun t293 ht293 => ?_)
  refine va_lald hx hb hK (hT.o21 (hT.k trW (by decide))).one 0 1 rfl rfl (g_in (by omega) (by omega)) dX6_lifts_133 ?_
  refine lv_topl (fun t294 ht294 => ?_)
  have xt294 : rwt (zJ s289 rW) (ix x219) = t294.toInt := by rw [ht294]; exact congrArg (fun q9 => (zJ s289 rW q9).toInt) (show 53 + ix x219 = ix t293 from by unfold ix; omega)
  have yt294 : t294.toInt = rwt (zJ σ0 rW) (ix x219) := by rw [← xt294]; show (zJ s289 rW (53 + ix x219)).toInt = _; rw [E292, un (d53_r u_x219), E285, un (d53_r u_x219), E280, un (d53_r u_x219), E273, un (d53_r u_x219), E268, un (d53_r u_x219), E262, un (d53_r u_x219), E256, un (d53_r u_x219), E241, E232, E221, E212, E203]; try rfl
  have hTo := hT
  refine tVv (n := 3) (As := [.int x201, .int 7, .long t294]) (rest := []) hx hb hml hown hg hT hK hX (X6_put l κ s289 this x201 7 t294  (hT.k t_this (by decide)) (by omega) (by omega) (by omega) (by omega)) (fun _ _ h => h) (mwV k1600 k1602 k74 k92 k1603) ⟨rfl, by decide, by decide, by decide +kernel⟩ ⟨(Nat.le_of_ble_eq_true rfl), (Nat.le_of_ble_eq_true rfl)⟩ (hT.o20 (hT.k t_this (by decide))) rfl rfl hl.1 rfl (Nat.le_of_ble_eq_true rfl) dX6_lifts_134 zroom.rf (fun s296 H locs hφ hEs296 hT => ?_)
  have f298 := hφ
  try simp only [erW, erP, ix_0, ix_1, ix_2, ix_3, ix_4, ix_5, ix_6, ix_7, ix_8, ix_9] at f298
  have E299 : zJ s296 rW = vp_updL (zJ s289 rW) (149 + 10 * ix x201 + 7) t294 := f298
  clear xt294 ht294 ht293
  refine lv_aload_n hx hb dX6_lifts_137 rfl (lv_at hl 6 rfl) ?_
  refine lv_iload_n hx hb dX6_lifts_138 rfl (lv_at hl 5 rfl) ?_
  refine lv_bipush (v := 8) hx hb dX6_lifts_139 (by decide) ?_
  refine lv_iload hx hb dX6_lifts_141 (lv_at hl 2 rfl) ?_
  refine lv_i2l hx hb dX6_lifts_143 rfl ?_
  refine g_i2l (fun t300 ht300 => ?_)
  have hTo := hT
  refine tVv (n := 3) (As := [.int x201, .int 8, .long t300]) (rest := []) hx hb hml hown hg hT hK hX (X6_put l κ s296 this x201 8 t300  (hT.k t_this (by decide)) (by omega) (by omega) (by omega) (by omega)) (fun _ _ h => h) (mwV k1600 k1602 k74 k92 k1603) ⟨rfl, by decide, by decide, by decide +kernel⟩ ⟨(Nat.le_of_ble_eq_true rfl), (Nat.le_of_ble_eq_true rfl)⟩ (hT.o20 (hT.k t_this (by decide))) rfl rfl hl.1 rfl (Nat.le_of_ble_eq_true rfl) dX6_lifts_144 zroom.rf (fun s302 H locs hφ hEs302 hT => ?_)
  have f304 := hφ
  try simp only [erW, erP, ix_0, ix_1, ix_2, ix_3, ix_4, ix_5, ix_6, ix_7, ix_8, ix_9] at f304
  have E305 : zJ s302 rW = vp_updL (zJ s296 rW) (149 + 10 * ix x201 + 8) t300 := f304
  refine lv_aload_n hx hb dX6_lifts_147 rfl (lv_at hl 6 rfl) ?_
  refine lv_iload_n hx hb dX6_lifts_148 rfl (lv_at hl 5 rfl) ?_
  refine lv_bipush (v := 9) hx hb dX6_lifts_149 (by decide) ?_
  refine lv_aload_n hx hb dX6_lifts_151 rfl (lv_at hl 6 rfl) ?_
  refine va_get (D := κ.1) (ci := 6) (v := .ref (kR κ this 1)) (C := RX6) (T := TX6) (N := 27) hx hb hg inX6 hown hK (hT.o20 (hT.k t_this (by decide))).one 0 rfl rfl 1 (by decide) (hg _ k1220) (fun _ h9 => h9) rfl dX6_lifts_152 ?_
  rw [erW]
  refine lv_iconst (v := 2) hx hb dX6_lifts_155 (by decide) ?_
  refine va_lald hx hb hK (hT.o21 (hT.k trW (by decide))).one 0 1 rfl rfl (g_in (by omega) (by omega)) dX6_lifts_156 ?_
  refine lv_topl (fun t306 ht306 => ?_)
  have xt306 : (zJ s302 rW 2).toInt = t306.toInt := by rw [ht306]; exact congrArg (fun q9 => (zJ s302 rW q9).toInt) (show 2 = ix 2 from by decide)
  have yt306 : t306.toInt = (zJ σ0 rW 2).toInt := by rw [← xt306]; show (zJ s302 rW (2)).toInt = _; rw [E305, un (show 2 ≠ 149 + 10 * ix x201 + 8 from by omega), E299, un (show 2 ≠ 149 + 10 * ix x201 + 7 from by omega), E292, un (show 2 ≠ 149 + 10 * ix x201 + 6 from by omega), E285, un (show 2 ≠ 149 + 10 * ix x201 + 5 from by omega), E280, un (show 2 ≠ 149 + 10 * ix x201 + 4 from by omega), E273, un (show 2 ≠ 149 + 10 * ix x201 + 3 from by omega), E268, un (show 2 ≠ 149 + 10 * ix x201 + 2 from by omega), E262, un (show 2 ≠ 149 + 10 * ix x201 + 1 from by omega), E256, un (show 2 ≠ 149 + 10 * ix x201 + 0 from by omega), E241, E232, E221, E212, E203]
  have xu : t306.toInt = u := by have z9 := yt306; omega
  have hTo := hT
  refine tVv (n := 3) (As := [.int x201, .int 9, .long t306]) (rest := []) hx hb hml hown hg hT hK hX (X6_put l κ s302 this x201 9 t306  (hT.k t_this (by decide)) (by omega) (by omega) (by omega) (by omega)) (fun _ _ h => h) (mwV k1600 k1602 k74 k92 k1603) ⟨rfl, by decide, by decide, by decide +kernel⟩ ⟨(Nat.le_of_ble_eq_true rfl), (Nat.le_of_ble_eq_true rfl)⟩ (hT.o20 (hT.k t_this (by decide))) rfl rfl hl.1 rfl (Nat.le_of_ble_eq_true rfl) dX6_lifts_157 zroom.rf (fun s308 H locs hφ hEs308 hT => ?_)
  have f310 := hφ
  try simp only [erW, erP, ix_0, ix_1, ix_2, ix_3, ix_4, ix_5, ix_6, ix_7, ix_8, ix_9] at f310
  have E311 : zJ s308 rW = vp_updL (zJ s302 rW) (149 + 10 * ix x201 + 9) t306 := f310
  clear xt306 ht306
  refine lv_aload_n hx hb dX6_lifts_160 rfl (lv_at hl 6 rfl) ?_
  refine va_get (D := κ.1) (ci := 6) (v := .ref (kR κ this 1)) (C := RX6) (T := TX6) (N := 27) hx hb hg inX6 hown hK (hT.o20 (hT.k t_this (by decide))).one 0 rfl rfl 1 (by decide) (hg _ k1220) (fun _ h9 => h9) rfl dX6_lifts_161 ?_
  rw [erW]
  refine lv_iconst (v := 3) hx hb dX6_lifts_164 (by decide) ?_
  refine lv_dup2_11 hx hb dX6_lifts_165 rfl rfl ?_
  refine va_lald hx hb hK (hT.o21 (hT.k trW (by decide))).one 0 1 rfl rfl (g_in (by omega) (by omega)) dX6_lifts_166 ?_
  refine lv_topl (fun t312 ht312 => ?_)
  have xt312 : (zJ s308 rW 3).toInt = t312.toInt := by rw [ht312]; exact congrArg (fun q9 => (zJ s308 rW q9).toInt) (show 3 = ix 3 from by decide)
  have yt312 : t312.toInt = (zJ σ0 rW 3).toInt := by rw [← xt312]; show (zJ s308 rW (3)).toInt = _; rw [E311, un (show 3 ≠ 149 + 10 * ix x201 + 9 from by omega), E305, un (show 3 ≠ 149 + 10 * ix x201 + 8 from by omega), E299, un (show 3 ≠ 149 + 10 * ix x201 + 7 from by omega), E292, un (show 3 ≠ 149 + 10 * ix x201 + 6 from by omega), E285, un (show 3 ≠ 149 + 10 * ix x201 + 5 from by omega), E280, un (show 3 ≠ 149 + 10 * ix x201 + 4 from by omega), E273, un (show 3 ≠ 149 + 10 * ix x201 + 3 from by omega), E268, un (show 3 ≠ 149 + 10 * ix x201 + 2 from by omega), E262, un (show 3 ≠ 149 + 10 * ix x201 + 1 from by omega), E256, un (show 3 ≠ 149 + 10 * ix x201 + 0 from by omega), E241, E232, E221, E212, E203]
  refine lv_aload_n hx hb dX6_lifts_167 rfl (lv_at hl 6 rfl) ?_
  refine va_get (D := κ.1) (ci := 6) (v := .ref (kR κ this 1)) (C := RX6) (T := TX6) (N := 27) hx hb hg inX6 hown hK (hT.o20 (hT.k t_this (by decide))).one 0 rfl rfl 1 (by decide) (hg _ k1220) (fun _ h9 => h9) rfl dX6_lifts_168 ?_
  rw [erW]
  refine lv_bipush (v := 53) hx hb dX6_lifts_171 (by decide) ?_
  refine lv_iload_n hx hb dX6_lifts_173 rfl (lv_at hl 4 rfl) ?_
  refine lv_iadd hx hb dX6_lifts_174 ?_
  first | refine g_add (by omega) (by omega) (fun t313 ht313 => ?_) | refine lv_topi (fun t313 ht313 => ?_)
  refine va_lald hx hb hK (hT.o21 (hT.k trW (by decide))).one 0 1 rfl rfl (g_in (by omega) (by omega)) dX6_lifts_175 ?_
  refine lv_topl (fun t314 ht314 => ?_)
  refine lv_aload_n hx hb dX6_lifts_176 rfl (lv_at hl 6 rfl) ?_
  refine va_get (D := κ.1) (ci := 6) (v := .ref (kR κ this 1)) (C := RX6) (T := TX6) (N := 27) hx hb hg inX6 hown hK (hT.o20 (hT.k t_this (by decide))).one 0 rfl rfl 1 (by decide) (hg _ k1220) (fun _ h9 => h9) rfl dX6_lifts_177 ?_
  rw [erW]
  refine lv_iconst (v := 5) hx hb dX6_lifts_180 (by decide) ?_
  refine lv_iload_n hx hb dX6_lifts_181 rfl (lv_at hl 4 rfl) ?_
  refine lv_iadd hx hb dX6_lifts_182 ?_
  first | refine g_add (by omega) (by omega) (fun t315 ht315 => ?_) | refine lv_topi (fun t315 ht315 => ?_)
  refine va_lald hx hb hK (hT.o21 (hT.k trW (by decide))).one 0 1 rfl rfl (g_in (by omega) (by omega)) dX6_lifts_183 ?_
  refine lv_topl (fun t316 ht316 => ?_)
  refine lv_lmul hx hb dX6_lifts_184 ?_
  refine lv_topl (fun t317 ht317 => ?_)
  refine lv_aload_n hx hb dX6_lifts_185 rfl (lv_at hl 6 rfl) ?_
  refine va_get (D := κ.1) (ci := 6) (v := .ref (kR κ this 1)) (C := RX6) (T := TX6) (N := 27) hx hb hg inX6 hown hK (hT.o20 (hT.k t_this (by decide))).one 0 rfl rfl 1 (by decide) (hg _ k1220) (fun _ h9 => h9) rfl dX6_lifts_186 ?_
  rw [erW]
  refine lv_bipush (v := 53) hx hb dX6_lifts_189 (by decide) ?_
  refine lv_iload hx hb dX6_lifts_191 (lv_at hl 3 rfl) ?_
  refine lv_iadd hx hb dX6_lifts_193 ?_
  first | refine g_add (by omega) (by omega) (fun t318 ht318 => ?_) | refine lv_topi (fun t318 ht318 => ?_)
  refine va_lald hx hb hK (hT.o21 (hT.k trW (by decide))).one 0 1 rfl rfl (g_in (by omega) (by omega)) dX6_lifts_194 ?_
  refine lv_topl (fun t319 ht319 => ?_)
  refine lv_aload_n hx hb dX6_lifts_195 rfl (lv_at hl 6 rfl) ?_
  refine va_get (D := κ.1) (ci := 6) (v := .ref (kR κ this 1)) (C := RX6) (T := TX6) (N := 27) hx hb hg inX6 hown hK (hT.o20 (hT.k t_this (by decide))).one 0 rfl rfl 1 (by decide) (hg _ k1220) (fun _ h9 => h9) rfl dX6_lifts_196 ?_
  rw [erW]
  refine lv_iconst (v := 5) hx hb dX6_lifts_199 (by decide) ?_
  refine lv_iload hx hb dX6_lifts_200 (lv_at hl 3 rfl) ?_
  refine lv_iadd hx hb dX6_lifts_202 ?_
  first | refine g_add (by omega) (by omega) (fun t320 ht320 => ?_) | refine lv_topi (fun t320 ht320 => ?_)
  refine va_lald hx hb hK (hT.o21 (hT.k trW (by decide))).one 0 1 rfl rfl (g_in (by omega) (by omega)) dX6_lifts_203 ?_
  refine lv_topl (fun t321 ht321 => ?_)
  refine lv_lmul hx hb dX6_lifts_204 ?_
  refine lv_topl (fun t322 ht322 => ?_)
  refine lv_ladd hx hb dX6_lifts_205 ?_
  refine lv_topl (fun t323 ht323 => ?_)
  refine lv_aload_n hx hb dX6_lifts_206 rfl (lv_at hl 6 rfl) ?_
  refine va_get (D := κ.1) (ci := 6) (v := .ref (kR κ this 1)) (C := RX6) (T := TX6) (N := 27) hx hb hg inX6 hown hK (hT.o20 (hT.k t_this (by decide))).one 0 rfl rfl 1 (by decide) (hg _ k1220) (fun _ h9 => h9) rfl dX6_lifts_207 ?_
  rw [erW]
  refine lv_bipush (v := 53) hx hb dX6_lifts_210 (by decide) ?_
  refine lv_iload_n hx hb dX6_lifts_212 rfl (lv_at hl 7 rfl) ?_
  refine lv_iadd hx hb dX6_lifts_213 ?_
  first | refine g_add (by omega) (by omega) (fun t324 ht324 => ?_) | refine lv_topi (fun t324 ht324 => ?_)
  refine va_lald hx hb hK (hT.o21 (hT.k trW (by decide))).one 0 1 rfl rfl (g_in (by omega) (by omega)) dX6_lifts_214 ?_
  refine lv_topl (fun t325 ht325 => ?_)
  refine lv_aload_n hx hb dX6_lifts_215 rfl (lv_at hl 6 rfl) ?_
  refine va_get (D := κ.1) (ci := 6) (v := .ref (kR κ this 1)) (C := RX6) (T := TX6) (N := 27) hx hb hg inX6 hown hK (hT.o20 (hT.k t_this (by decide))).one 0 rfl rfl 1 (by decide) (hg _ k1220) (fun _ h9 => h9) rfl dX6_lifts_216 ?_
  rw [erW]
  refine lv_iconst (v := 5) hx hb dX6_lifts_219 (by decide) ?_
  refine lv_iload_n hx hb dX6_lifts_220 rfl (lv_at hl 7 rfl) ?_
  refine lv_iadd hx hb dX6_lifts_221 ?_
  first | refine g_add (by omega) (by omega) (fun t326 ht326 => ?_) | refine lv_topi (fun t326 ht326 => ?_)
  refine va_lald hx hb hK (hT.o21 (hT.k trW (by decide))).one 0 1 rfl rfl (g_in (by omega) (by omega)) dX6_lifts_222 ?_
  refine lv_topl (fun t327 ht327 => ?_)
  refine lv_lmul hx hb dX6_lifts_223 ?_
  refine lv_topl (fun t328 ht328 => ?_)
  refine lv_ladd hx hb dX6_lifts_224 ?_
  refine lv_topl (fun t329 ht329 => ?_)
  refine lv_ladd hx hb dX6_lifts_225 ?_
  refine lv_topl (fun t330 ht330 => ?_)
  have hTo := hT
  refine tastlx (n := 609) hx hb hK hT (hT.k trW (by decide)) ⟨by decide, by decide⟩ (fun _ _ _ => rfl) (fun _ _ => trivial) (by omega) (by omega) (ge3_gW _ (by unfold ix; omega)) dX6_lifts_226 (fun H locs s331 hus331 hT => ?_)
  have E332 : zJ s331 rW = vp_updL (zJ s308 rW) (3) t330 := by rw [zpul_Ja hus331]; exact congrArg (fun q9 => vp_updL (zJ s308 rW) q9 t330) (show ix 3 = 3 from by decide)
  clear ht330 ht329 ht328 ht327 ht326 ht325 ht324 ht323 ht322 ht321 ht320 ht319 ht318 ht317 ht316 ht315 ht314 ht313 yt312 xt312 ht312
  refine lv_aload_n hx hb dX6_lifts_227 rfl (lv_at hl 6 rfl) ?_
  refine va_get (D := κ.1) (ci := 6) (v := .ref (kR κ this 1)) (C := RX6) (T := TX6) (N := 27) hx hb hg inX6 hown hK (hT.o20 (hT.k t_this (by decide))).one 0 rfl rfl 1 (by decide) (hg _ k1220) (fun _ h9 => h9) rfl dX6_lifts_228 ?_
  rw [erW]
  refine lv_bipush (v := 53) hx hb dX6_lifts_231 (by decide) ?_
  refine lv_iload_n hx hb dX6_lifts_233 rfl (lv_at hl 4 rfl) ?_
  refine lv_iadd hx hb dX6_lifts_234 ?_
  first | refine g_add (by omega) (by omega) (fun t333 ht333 => ?_) | refine lv_topi (fun t333 ht333 => ?_)
  refine lv_dup2_11 hx hb dX6_lifts_235 rfl rfl ?_
  refine va_lald hx hb hK (hT.o21 (hT.k trW (by decide))).one 0 1 rfl rfl (g_in (by omega) (by omega)) dX6_lifts_236 ?_
  refine lv_topl (fun t334 ht334 => ?_)
  have xt334 : rwt (zJ s331 rW) (ix x210) = t334.toInt := by rw [ht334]; exact congrArg (fun q9 => (zJ s331 rW q9).toInt) (show 53 + ix x210 = ix t333 from by unfold ix; omega)
  have yt334 : t334.toInt = rwt (zJ σ0 rW) (ix x210) := by rw [← xt334]; show (zJ s331 rW (53 + ix x210)).toInt = _; rw [E332, un d53_3, E311, un (d53_r u_x210), E305, un (d53_r u_x210), E299, un (d53_r u_x210), E292, un (d53_r u_x210), E285, un (d53_r u_x210), E280, un (d53_r u_x210), E273, un (d53_r u_x210), E268, un (d53_r u_x210), E262, un (d53_r u_x210), E256, un (d53_r u_x210), E241, E232, E221, E212, E203]; try rfl
  refine lv_lload hx hb dX6_lifts_237 (lv_at hl 0 rfl) ?_
  refine lv_ladd hx hb dX6_lifts_239 ?_
  refine g_addl (by omega) (by omega) (fun t335 ht335 => ?_)
  have a11 : t335.toInt = E := by omega
  have hTo := hT
  refine tastlx (n := 609) hx hb hK hT (hT.k trW (by decide)) ⟨by decide, by decide⟩ (fun _ _ _ => rfl) (fun _ _ => trivial) (by omega) (by omega) (ge3_gW _ (by unfold ix; omega)) dX6_lifts_240 (fun H locs s336 hus336 hT => ?_)
  have E337 : zJ s336 rW = vp_updL (zJ s331 rW) (53 + ix x210) t335 := by rw [zpul_Ja hus336]; exact congrArg (fun q9 => vp_updL (zJ s331 rW) q9 t335) (show ix t333 = 53 + ix x210 from by unfold ix; omega)
  clear xt334 ht334 ht333
  refine lv_aload_n hx hb dX6_lifts_241 rfl (lv_at hl 6 rfl) ?_
  refine va_get (D := κ.1) (ci := 6) (v := .ref (kR κ this 1)) (C := RX6) (T := TX6) (N := 27) hx hb hg inX6 hown hK (hT.o20 (hT.k t_this (by decide))).one 0 rfl rfl 1 (by decide) (hg _ k1220) (fun _ h9 => h9) rfl dX6_lifts_242 ?_
  rw [erW]
  refine lv_bipush (v := 53) hx hb dX6_lifts_245 (by decide) ?_
  refine lv_iload hx hb dX6_lifts_247 (lv_at hl 3 rfl) ?_
  refine lv_iadd hx hb dX6_lifts_249 ?_
  first | refine g_add (by omega) (by omega) (fun t338 ht338 => ?_) | refine lv_topi (fun t338 ht338 => ?_)
  refine lv_dup2_11 hx hb dX6_lifts_250 rfl rfl ?_
  refine va_lald hx hb hK (hT.o21 (hT.k trW (by decide))).one 0 1 rfl rfl (g_in (by omega) (by omega)) dX6_lifts_251 ?_
  refine lv_topl (fun t339 ht339 => ?_)
  have xt339 : rwt (zJ s336 rW) (ix x219) = t339.toInt := by rw [ht339]; exact congrArg (fun q9 => (zJ s336 rW q9).toInt) (show 53 + ix x219 = ix t338 from by unfold ix; omega)
  have yt339 : t339.toInt = rwt (zJ σ0 rW) (ix x219) := by rw [← xt339]; show (zJ s336 rW (53 + ix x219)).toInt = _; rw [E337, un (d53_53 n_x219_x210), E332, un d53_3, E311, un (d53_r u_x219), E305, un (d53_r u_x219), E299, un (d53_r u_x219), E292, un (d53_r u_x219), E285, un (d53_r u_x219), E280, un (d53_r u_x219), E273, un (d53_r u_x219), E268, un (d53_r u_x219), E262, un (d53_r u_x219), E256, un (d53_r u_x219), E241, E232, E221, E212, E203]; try rfl
  refine lv_aload_n hx hb dX6_lifts_252 rfl (lv_at hl 6 rfl) ?_
  refine va_get (D := κ.1) (ci := 6) (v := .ref (kR κ this 1)) (C := RX6) (T := TX6) (N := 27) hx hb hg inX6 hown hK (hT.o20 (hT.k t_this (by decide))).one 0 rfl rfl 1 (by decide) (hg _ k1220) (fun _ h9 => h9) rfl dX6_lifts_253 ?_
  rw [erW]
  refine lv_bipush (v := 53) hx hb dX6_lifts_256 (by decide) ?_
  refine lv_iload_n hx hb dX6_lifts_258 rfl (lv_at hl 7 rfl) ?_
  refine lv_iadd hx hb dX6_lifts_259 ?_
  first | refine g_add (by omega) (by omega) (fun t340 ht340 => ?_) | refine lv_topi (fun t340 ht340 => ?_)
  refine va_lald hx hb hK (hT.o21 (hT.k trW (by decide))).one 0 1 rfl rfl (g_in (by omega) (by omega)) dX6_lifts_260 ?_
  refine lv_topl (fun t341 ht341 => ?_)
  have xt341 : rwt (zJ s336 rW) (ix i) = t341.toInt := by rw [ht341]; exact congrArg (fun q9 => (zJ s336 rW q9).toInt) (show 53 + ix i = ix t340 from by unfold ix; omega)
  have yt341 : t341.toInt = rwt (zJ σ0 rW) (ix i) := by rw [← xt341]; show (zJ s336 rW (53 + ix i)).toInt = _; rw [E337, un (d53_53 n_i_x210), E332, un d53_3, E311, un (d53_r u_i), E305, un (d53_r u_i), E299, un (d53_r u_i), E292, un (d53_r u_i), E285, un (d53_r u_i), E280, un (d53_r u_i), E273, un (d53_r u_i), E268, un (d53_r u_i), E262, un (d53_r u_i), E256, un (d53_r u_i), E241, E232, E221, E212, E203]; try rfl
  refine lv_lload hx hb dX6_lifts_261 (lv_at hl 0 rfl) ?_
  refine lv_lsub hx hb dX6_lifts_263 ?_
  refine g_subl (by omega) (by omega) (fun t342 ht342 => ?_)
  refine lv_ladd hx hb dX6_lifts_264 ?_
  refine g_addl (by omega) (by omega) (fun t343 ht343 => ?_)
  have a12 : t343.toInt = F := by omega
  have hTo := hT
  refine tastlx (n := 609) hx hb hK hT (hT.k trW (by decide)) ⟨by decide, by decide⟩ (fun _ _ _ => rfl) (fun _ _ => trivial) (by omega) (by omega) (ge3_gW _ (by unfold ix; omega)) dX6_lifts_265 (fun H locs s344 hus344 hT => ?_)
  have E345 : zJ s344 rW = vp_updL (zJ s336 rW) (53 + ix x219) t343 := by rw [zpul_Ja hus344]; exact congrArg (fun q9 => vp_updL (zJ s336 rW) q9 t343) (show ix t338 = 53 + ix x219 from by unfold ix; omega)
  clear xt341 ht341 ht340 xt339 ht339 ht338
  refine lv_aload_n hx hb dX6_lifts_266 rfl (lv_at hl 6 rfl) ?_
  refine lv_iload_n hx hb dX6_lifts_267 rfl (lv_at hl 5 rfl) ?_
  refine lv_aload_n hx hb dX6_lifts_268 rfl (lv_at hl 6 rfl) ?_
  refine va_get (D := κ.1) (ci := 6) (v := .ref (kR κ this 1)) (C := RX6) (T := TX6) (N := 27) hx hb hg inX6 hown hK (hT.o20 (hT.k t_this (by decide))).one 0 rfl rfl 1 (by decide) (hg _ k1220) (fun _ h9 => h9) rfl dX6_lifts_269 ?_
  rw [erW]
  refine lv_bipush (v := 53) hx hb dX6_lifts_272 (by decide) ?_
  refine lv_iload_n hx hb dX6_lifts_274 rfl (lv_at hl 4 rfl) ?_
  refine lv_iadd hx hb dX6_lifts_275 ?_
  first | refine g_add (by omega) (by omega) (fun t346 ht346 => ?_) | refine lv_topi (fun t346 ht346 => ?_)
  refine va_lald hx hb hK (hT.o21 (hT.k trW (by decide))).one 0 1 rfl rfl (g_in (by omega) (by omega)) dX6_lifts_276 ?_
  refine lv_topl (fun t347 ht347 => ?_)
  have xt347 : rwt (zJ s344 rW) (ix x210) = t347.toInt := by rw [ht347]; exact congrArg (fun q9 => (zJ s344 rW q9).toInt) (show 53 + ix x210 = ix t346 from by unfold ix; omega)
  have yt347 : t347.toInt = t335.toInt := by rw [← xt347]; show (zJ s344 rW (53 + ix x210)).toInt = _; rw [E345, un (d53_53 n_x210_x219), E337, uh]
  refine lv_aload_n hx hb dX6_lifts_277 rfl (lv_at hl 6 rfl) ?_
  refine va_get (D := κ.1) (ci := 6) (v := .ref (kR κ this 1)) (C := RX6) (T := TX6) (N := 27) hx hb hg inX6 hown hK (hT.o20 (hT.k t_this (by decide))).one 0 rfl rfl 1 (by decide) (hg _ k1220) (fun _ h9 => h9) rfl dX6_lifts_278 ?_
  rw [erW]
  refine lv_bipush (v := 53) hx hb dX6_lifts_281 (by decide) ?_
  refine lv_iload hx hb dX6_lifts_283 (lv_at hl 3 rfl) ?_
  refine lv_iadd hx hb dX6_lifts_285 ?_
  first | refine g_add (by omega) (by omega) (fun t348 ht348 => ?_) | refine lv_topi (fun t348 ht348 => ?_)
  refine va_lald hx hb hK (hT.o21 (hT.k trW (by decide))).one 0 1 rfl rfl (g_in (by omega) (by omega)) dX6_lifts_286 ?_
  refine lv_topl (fun t349 ht349 => ?_)
  have xt349 : rwt (zJ s344 rW) (ix x219) = t349.toInt := by rw [ht349]; exact congrArg (fun q9 => (zJ s344 rW q9).toInt) (show 53 + ix x219 = ix t348 from by unfold ix; omega)
  have yt349 : t349.toInt = t343.toInt := by rw [← xt349]; show (zJ s344 rW (53 + ix x219)).toInt = _; rw [E345, uh]
  have g9 : rst (zJ s344 rW) (ix x201) 9 = t306.toInt := by show (zJ s344 rW (149 + 10 * ix x201 + 9)).toInt = _; rw [E345, un (show 149 + 10 * ix x201 + 9 ≠ 53 + ix x219 from by omega), E337, un (show 149 + 10 * ix x201 + 9 ≠ 53 + ix x210 from by omega), E332, un (show 149 + 10 * ix x201 + 9 ≠ 3 from by omega), E311, uh]
  have g4 : rst (zJ s344 rW) (ix x201) 4 = t275.toInt := by show (zJ s344 rW (149 + 10 * ix x201 + 4)).toInt = _; rw [E345, un (show 149 + 10 * ix x201 + 4 ≠ 53 + ix x219 from by omega), E337, un (show 149 + 10 * ix x201 + 4 ≠ 53 + ix x210 from by omega), E332, un (show 149 + 10 * ix x201 + 4 ≠ 3 from by omega), E311, un (show 149 + 10 * ix x201 + 4 ≠ 149 + 10 * ix x201 + 9 from by omega), E305, un (show 149 + 10 * ix x201 + 4 ≠ 149 + 10 * ix x201 + 8 from by omega), E299, un (show 149 + 10 * ix x201 + 4 ≠ 149 + 10 * ix x201 + 7 from by omega), E292, un (show 149 + 10 * ix x201 + 4 ≠ 149 + 10 * ix x201 + 6 from by omega), E285, un (show 149 + 10 * ix x201 + 4 ≠ 149 + 10 * ix x201 + 5 from by omega), E280, uh]
  have g3 : rst (zJ s344 rW) (ix x201) 3 = x230.toInt := by show (zJ s344 rW (149 + 10 * ix x201 + 3)).toInt = _; rw [E345, un (show 149 + 10 * ix x201 + 3 ≠ 53 + ix x219 from by omega), E337, un (show 149 + 10 * ix x201 + 3 ≠ 53 + ix x210 from by omega), E332, un (show 149 + 10 * ix x201 + 3 ≠ 3 from by omega), E311, un (show 149 + 10 * ix x201 + 3 ≠ 149 + 10 * ix x201 + 9 from by omega), E305, un (show 149 + 10 * ix x201 + 3 ≠ 149 + 10 * ix x201 + 8 from by omega), E299, un (show 149 + 10 * ix x201 + 3 ≠ 149 + 10 * ix x201 + 7 from by omega), E292, un (show 149 + 10 * ix x201 + 3 ≠ 149 + 10 * ix x201 + 6 from by omega), E285, un (show 149 + 10 * ix x201 + 3 ≠ 149 + 10 * ix x201 + 5 from by omega), E280, un (show 149 + 10 * ix x201 + 3 ≠ 149 + 10 * ix x201 + 4 from by omega), E273, uh]
  have xow : t347.toInt = E := by omega
  have xot : t349.toInt = F := by omega
  have hTo := hT
  refine tVl (n := 3) (As := [.int x201, .long t347, .long t349]) (rest := []) hx hb hml hown hg hT hK hX (X6v_gets l κ s344 this x201 t347 t349  (hT.k t_this (by decide)) (by omega) (by omega) (by omega) (by omega) (by omega) (by rw [erW, g4]; omega) (by rw [erW, g4]; omega) (by rw [erW, g3]; omega) (by rw [erW, g3]; omega)) sub_fE_gW (mwV k1604 k1606 k75 k92 k1607) ⟨rfl, by decide, by decide, by decide +kernel⟩ ⟨(Nat.le_of_ble_eq_true rfl), (Nat.le_of_ble_eq_true rfl)⟩ (hT.o20 (hT.k t_this (by decide))) rfl rfl hl.1 rfl (Nat.le_of_ble_eq_true rfl) dX6_lifts_287 zroom.rf (fun x350 s351 H locs hφ hEs351 hT => ?_)
  have E352 : zJ s351 rW = zJ s344 rW := funext fun k => (hTo.k trW (by decide)).eJ hEs351 (by decide) rfl
  have f353 := hφ
  try simp only [erW, erP, ix_0, ix_1, ix_2, ix_3, ix_4, ix_5, ix_6, ix_7, ix_8, ix_9] at f353
  have gL : x350.toInt = gan u (wt (ix i)) d E F := by rw [f353, g9, g4, g3, xow, xot, show t306.toInt = u from by omega, show t275.toInt = wt (ix i) from by omega, show x230.toInt = d from by omega]
  refine lv_lstore (lv' := [(10, .long x350), (8, .long x239), (6, .long x230), (5, .int t229), (4, .int x219), (3, .int x210), (2, .int x201), (0, .ref this), (1, .int i)]) hx hb dX6_lifts_290 hl (by decide) rfl (fun ls hl => ?_)
  clear xt349 ht349 ht348 xt347 ht347 ht346
  refine lv_aload_n hx hb dX6_lifts_292 rfl (lv_at hl 7 rfl) ?_
  refine lv_iload_n hx hb dX6_lifts_293 rfl (lv_at hl 6 rfl) ?_
  refine lv_aload_n hx hb dX6_lifts_294 rfl (lv_at hl 7 rfl) ?_
  refine va_get (D := κ.1) (ci := 6) (v := .ref (kR κ this 1)) (C := RX6) (T := TX6) (N := 27) hx hb hg inX6 hown hK (hT.o20 (hT.k t_this (by decide))).one 0 rfl rfl 1 (by decide) (hg _ k1220) (fun _ h9 => h9) rfl dX6_lifts_295 ?_
  rw [erW]
  refine lv_bipush (v := 53) hx hb dX6_lifts_298 (by decide) ?_
  refine lv_iload hx hb dX6_lifts_300 (lv_at hl 4 rfl) ?_
  refine lv_iadd hx hb dX6_lifts_302 ?_
  first | refine g_add (by omega) (by omega) (fun t354 ht354 => ?_) | refine lv_topi (fun t354 ht354 => ?_)
  refine va_lald hx hb hK (hT.o21 (hT.k trW (by decide))).one 0 1 rfl rfl (g_in (by omega) (by omega)) dX6_lifts_303 ?_
  refine lv_topl (fun t355 ht355 => ?_)
  have xt355 : rwt (zJ s351 rW) (ix x219) = t355.toInt := by rw [ht355]; exact congrArg (fun q9 => (zJ s351 rW q9).toInt) (show 53 + ix x219 = ix t354 from by unfold ix; omega)
  have yt355 : t355.toInt = t343.toInt := by rw [← xt355]; show (zJ s351 rW (53 + ix x219)).toInt = _; rw [E352, E345, uh]
  refine lv_aload_n hx hb dX6_lifts_304 rfl (lv_at hl 7 rfl) ?_
  refine va_get (D := κ.1) (ci := 6) (v := .ref (kR κ this 1)) (C := RX6) (T := TX6) (N := 27) hx hb hg inX6 hown hK (hT.o20 (hT.k t_this (by decide))).one 0 rfl rfl 1 (by decide) (hg _ k1220) (fun _ h9 => h9) rfl dX6_lifts_305 ?_
  rw [erW]
  refine lv_bipush (v := 53) hx hb dX6_lifts_308 (by decide) ?_
  refine lv_iload_n hx hb dX6_lifts_310 rfl (lv_at hl 5 rfl) ?_
  refine lv_iadd hx hb dX6_lifts_311 ?_
  first | refine g_add (by omega) (by omega) (fun t356 ht356 => ?_) | refine lv_topi (fun t356 ht356 => ?_)
  refine va_lald hx hb hK (hT.o21 (hT.k trW (by decide))).one 0 1 rfl rfl (g_in (by omega) (by omega)) dX6_lifts_312 ?_
  refine lv_topl (fun t357 ht357 => ?_)
  have xt357 : rwt (zJ s351 rW) (ix x210) = t357.toInt := by rw [ht357]; exact congrArg (fun q9 => (zJ s351 rW q9).toInt) (show 53 + ix x210 = ix t356 from by unfold ix; omega)
  have yt357 : t357.toInt = t335.toInt := by rw [← xt357]; show (zJ s351 rW (53 + ix x210)).toInt = _; rw [E352, E345, un (d53_53 n_x210_x219), E337, uh]
  have g9 : rst (zJ s351 rW) (ix x201) 9 = t306.toInt := by show (zJ s351 rW (149 + 10 * ix x201 + 9)).toInt = _; rw [E352, E345, un (show 149 + 10 * ix x201 + 9 ≠ 53 + ix x219 from by omega), E337, un (show 149 + 10 * ix x201 + 9 ≠ 53 + ix x210 from by omega), E332, un (show 149 + 10 * ix x201 + 9 ≠ 3 from by omega), E311, uh]
  have g4 : rst (zJ s351 rW) (ix x201) 4 = t275.toInt := by show (zJ s351 rW (149 + 10 * ix x201 + 4)).toInt = _; rw [E352, E345, un (show 149 + 10 * ix x201 + 4 ≠ 53 + ix x219 from by omega), E337, un (show 149 + 10 * ix x201 + 4 ≠ 53 + ix x210 from by omega), E332, un (show 149 + 10 * ix x201 + 4 ≠ 3 from by omega), E311, un (show 149 + 10 * ix x201 + 4 ≠ 149 + 10 * ix x201 + 9 from by omega), E305, un (show 149 + 10 * ix x201 + 4 ≠ 149 + 10 * ix x201 + 8 from by omega), E299, un (show 149 + 10 * ix x201 + 4 ≠ 149 + 10 * ix x201 + 7 from by omega), E292, un (show 149 + 10 * ix x201 + 4 ≠ 149 + 10 * ix x201 + 6 from by omega), E285, un (show 149 + 10 * ix x201 + 4 ≠ 149 + 10 * ix x201 + 5 from by omega), E280, uh]
  have g3 : rst (zJ s351 rW) (ix x201) 3 = x230.toInt := by show (zJ s351 rW (149 + 10 * ix x201 + 3)).toInt = _; rw [E352, E345, un (show 149 + 10 * ix x201 + 3 ≠ 53 + ix x219 from by omega), E337, un (show 149 + 10 * ix x201 + 3 ≠ 53 + ix x210 from by omega), E332, un (show 149 + 10 * ix x201 + 3 ≠ 3 from by omega), E311, un (show 149 + 10 * ix x201 + 3 ≠ 149 + 10 * ix x201 + 9 from by omega), E305, un (show 149 + 10 * ix x201 + 3 ≠ 149 + 10 * ix x201 + 8 from by omega), E299, un (show 149 + 10 * ix x201 + 3 ≠ 149 + 10 * ix x201 + 7 from by omega), E292, un (show 149 + 10 * ix x201 + 3 ≠ 149 + 10 * ix x201 + 6 from by omega), E285, un (show 149 + 10 * ix x201 + 3 ≠ 149 + 10 * ix x201 + 5 from by omega), E280, un (show 149 + 10 * ix x201 + 3 ≠ 149 + 10 * ix x201 + 4 from by omega), E273, uh]
  have xow : t355.toInt = F := by omega
  have xot : t357.toInt = E := by omega
  have hTo := hT
  refine tVl (n := 3) (As := [.int x201, .long t355, .long t357]) (rest := []) hx hb hml hown hg hT hK hX (X6v_gets l κ s351 this x201 t355 t357  (hT.k t_this (by decide)) (by omega) (by omega) (by omega) (by omega) (by omega) (by rw [erW, g4]; omega) (by rw [erW, g4]; omega) (by rw [erW, g3]; omega) (by rw [erW, g3]; omega)) sub_fE_gW (mwV k1604 k1606 k75 k92 k1607) ⟨rfl, by decide, by decide, by decide +kernel⟩ ⟨(Nat.le_of_ble_eq_true rfl), (Nat.le_of_ble_eq_true rfl)⟩ (hT.o20 (hT.k t_this (by decide))) rfl rfl hl.1 rfl (Nat.le_of_ble_eq_true rfl) dX6_lifts_313 zroom.rf (fun x358 s359 H locs hφ hEs359 hT => ?_)
  have E360 : zJ s359 rW = zJ s351 rW := funext fun k => (hTo.k trW (by decide)).eJ hEs359 (by decide) rfl
  have f361 := hφ
  try simp only [erW, erP, ix_0, ix_1, ix_2, ix_3, ix_4, ix_5, ix_6, ix_7, ix_8, ix_9] at f361
  have gR : x358.toInt = gan u (wt (ix i)) d F E := by rw [f361, g9, g4, g3, xow, xot, show t306.toInt = u from by omega, show t275.toInt = wt (ix i) from by omega, show x230.toInt = d from by omega]
  refine lv_lstore (lv' := [(12, .long x358), (10, .long x350), (8, .long x239), (6, .long x230), (5, .int t229), (4, .int x219), (3, .int x210), (2, .int x201), (0, .ref this), (1, .int i)]) hx hb dX6_lifts_316 hl (by decide) rfl (fun ls hl => ?_)
  clear xt357 ht357 ht356 xt355 ht355 ht354
  refine lv_aload_n hx hb dX6_lifts_318 rfl (lv_at hl 8 rfl) ?_
  refine va_get (D := κ.1) (ci := 6) (v := .ref (kR κ this 1)) (C := RX6) (T := TX6) (N := 27) hx hb hg inX6 hown hK (hT.o20 (hT.k t_this (by decide))).one 0 rfl rfl 1 (by decide) (hg _ k1220) (fun _ h9 => h9) rfl dX6_lifts_319 ?_
  rw [erW]
  refine lv_iconst (v := 5) hx hb dX6_lifts_322 (by decide) ?_
  refine lv_iload_n hx hb dX6_lifts_323 rfl (lv_at hl 6 rfl) ?_
  refine lv_iadd hx hb dX6_lifts_324 ?_
  first | refine g_add (by omega) (by omega) (fun t362 ht362 => ?_) | refine lv_topi (fun t362 ht362 => ?_)
  refine lv_dup2_11 hx hb dX6_lifts_325 rfl rfl ?_
  refine va_lald hx hb hK (hT.o21 (hT.k trW (by decide))).one 0 1 rfl rfl (g_in (by omega) (by omega)) dX6_lifts_326 ?_
  refine lv_topl (fun t363 ht363 => ?_)
  have xt363 : rvl (zJ s359 rW) (ix x210) = t363.toInt := by rw [ht363]; exact congrArg (fun q9 => (zJ s359 rW q9).toInt) (show 5 + ix x210 = ix t362 from by unfold ix; omega)
  have yt363 : t363.toInt = rvl (zJ σ0 rW) (ix x210) := by rw [← xt363]; show (zJ s359 rW (5 + ix x210)).toInt = _; rw [E360, E352, E345, un (show 5 + ix x210 ≠ 53 + ix x219 from by omega), E337, un (show 5 + ix x210 ≠ 53 + ix x210 from by omega), E332, un (show 5 + ix x210 ≠ 3 from by omega), E311, un (show 5 + ix x210 ≠ 149 + 10 * ix x201 + 9 from by omega), E305, un (show 5 + ix x210 ≠ 149 + 10 * ix x201 + 8 from by omega), E299, un (show 5 + ix x210 ≠ 149 + 10 * ix x201 + 7 from by omega), E292, un (show 5 + ix x210 ≠ 149 + 10 * ix x201 + 6 from by omega), E285, un (show 5 + ix x210 ≠ 149 + 10 * ix x201 + 5 from by omega), E280, un (show 5 + ix x210 ≠ 149 + 10 * ix x201 + 4 from by omega), E273, un (show 5 + ix x210 ≠ 149 + 10 * ix x201 + 3 from by omega), E268, un (show 5 + ix x210 ≠ 149 + 10 * ix x201 + 2 from by omega), E262, un (show 5 + ix x210 ≠ 149 + 10 * ix x201 + 1 from by omega), E256, un (show 5 + ix x210 ≠ 149 + 10 * ix x201 + 0 from by omega), E241, E232, E221, E212, E203]; try rfl
  refine lv_lload hx hb dX6_lifts_327 (lv_at hl 1 rfl) ?_
  refine lv_ladd hx hb dX6_lifts_329 ?_
  refine g_addl (by omega) (by omega) (fun t364 ht364 => ?_)
  have a13 : t364.toInt = v pa + gan u (wt (ix i)) d E F := by omega
  have hTo := hT
  refine tastlx (n := 609) hx hb hK hT (hT.k trW (by decide)) ⟨by decide, by decide⟩ (fun _ _ _ => rfl) (fun _ _ => trivial) (by omega) (by omega) (ge3_gW _ (by unfold ix; omega)) dX6_lifts_330 (fun H locs s365 hus365 hT => ?_)
  have E366 : zJ s365 rW = vp_updL (zJ s359 rW) (5 + ix x210) t364 := by rw [zpul_Ja hus365]; exact congrArg (fun q9 => vp_updL (zJ s359 rW) q9 t364) (show ix t362 = 5 + ix x210 from by unfold ix; omega)
  clear yt363 xt363 ht363 ht362
  refine lv_aload_n hx hb dX6_lifts_331 rfl (lv_at hl 8 rfl) ?_
  refine va_get (D := κ.1) (ci := 6) (v := .ref (kR κ this 1)) (C := RX6) (T := TX6) (N := 27) hx hb hg inX6 hown hK (hT.o20 (hT.k t_this (by decide))).one 0 rfl rfl 1 (by decide) (hg _ k1220) (fun _ h9 => h9) rfl dX6_lifts_332 ?_
  rw [erW]
  refine lv_iconst (v := 5) hx hb dX6_lifts_335 (by decide) ?_
  refine lv_iload hx hb dX6_lifts_336 (lv_at hl 5 rfl) ?_
  refine lv_iadd hx hb dX6_lifts_338 ?_
  first | refine g_add (by omega) (by omega) (fun t367 ht367 => ?_) | refine lv_topi (fun t367 ht367 => ?_)
  refine lv_dup2_11 hx hb dX6_lifts_339 rfl rfl ?_
  refine va_lald hx hb hK (hT.o21 (hT.k trW (by decide))).one 0 1 rfl rfl (g_in (by omega) (by omega)) dX6_lifts_340 ?_
  refine lv_topl (fun t368 ht368 => ?_)
  have xt368 : rvl (zJ s365 rW) (ix x219) = t368.toInt := by rw [ht368]; exact congrArg (fun q9 => (zJ s365 rW q9).toInt) (show 5 + ix x219 = ix t367 from by unfold ix; omega)
  have yt368 : t368.toInt = rvl (zJ σ0 rW) (ix x219) := by rw [← xt368]; show (zJ s365 rW (5 + ix x219)).toInt = _; rw [E366, un (show 5 + ix x219 ≠ 5 + ix x210 from by omega), E360, E352, E345, un (show 5 + ix x219 ≠ 53 + ix x219 from by omega), E337, un (show 5 + ix x219 ≠ 53 + ix x210 from by omega), E332, un (show 5 + ix x219 ≠ 3 from by omega), E311, un (show 5 + ix x219 ≠ 149 + 10 * ix x201 + 9 from by omega), E305, un (show 5 + ix x219 ≠ 149 + 10 * ix x201 + 8 from by omega), E299, un (show 5 + ix x219 ≠ 149 + 10 * ix x201 + 7 from by omega), E292, un (show 5 + ix x219 ≠ 149 + 10 * ix x201 + 6 from by omega), E285, un (show 5 + ix x219 ≠ 149 + 10 * ix x201 + 5 from by omega), E280, un (show 5 + ix x219 ≠ 149 + 10 * ix x201 + 4 from by omega), E273, un (show 5 + ix x219 ≠ 149 + 10 * ix x201 + 3 from by omega), E268, un (show 5 + ix x219 ≠ 149 + 10 * ix x201 + 2 from by omega), E262, un (show 5 + ix x219 ≠ 149 + 10 * ix x201 + 1 from by omega), E256, un (show 5 + ix x219 ≠ 149 + 10 * ix x201 + 0 from by omega), E241, E232, E221, E212, E203]; try rfl
  refine lv_lload hx hb dX6_lifts_341 (lv_at hl 0 rfl) ?_
  refine lv_ladd hx hb dX6_lifts_343 ?_
  refine g_addl (by omega) (by omega) (fun t369 ht369 => ?_)
  have a14 : t369.toInt = v q + gan u (wt (ix i)) d F E := by omega
  have hTo := hT
  refine tastlx (n := 609) hx hb hK hT (hT.k trW (by decide)) ⟨by decide, by decide⟩ (fun _ _ _ => rfl) (fun _ _ => trivial) (by omega) (by omega) (ge3_gW _ (by unfold ix; omega)) dX6_lifts_344 (fun H locs s370 hus370 hT => ?_)
  have E371 : zJ s370 rW = vp_updL (zJ s365 rW) (5 + ix x219) t369 := by rw [zpul_Ja hus370]; exact congrArg (fun q9 => vp_updL (zJ s365 rW) q9 t369) (show ix t367 = 5 + ix x219 from by unfold ix; omega)
  clear yt368 xt368 ht368 ht367
  refine lv_aload_n hx hb dX6_lifts_345 rfl (lv_at hl 8 rfl) ?_
  refine va_get (D := κ.1) (ci := 6) (v := .ref (kR κ this 1)) (C := RX6) (T := TX6) (N := 27) hx hb hg inX6 hown hK (hT.o20 (hT.k t_this (by decide))).one 0 rfl rfl 1 (by decide) (hg _ k1220) (fun _ h9 => h9) rfl dX6_lifts_346 ?_
  rw [erW]
  refine lv_iconst (v := 3) hx hb dX6_lifts_349 (by decide) ?_
  refine lv_dup2_11 hx hb dX6_lifts_350 rfl rfl ?_
  refine va_lald hx hb hK (hT.o21 (hT.k trW (by decide))).one 0 1 rfl rfl (g_in (by omega) (by omega)) dX6_lifts_351 ?_
  refine lv_topl (fun t372 ht372 => ?_)
  have xt372 : (zJ s370 rW 3).toInt = t372.toInt := by rw [ht372]; exact congrArg (fun q9 => (zJ s370 rW q9).toInt) (show 3 = ix 3 from by decide)
  have yt372 : t372.toInt = t330.toInt := by rw [← xt372]; show (zJ s370 rW (3)).toInt = _; rw [E371, un (show 3 ≠ 5 + ix x219 from by omega), E366, un (show 3 ≠ 5 + ix x210 from by omega), E360, E352, E345, un (show 3 ≠ 53 + ix x219 from by omega), E337, un (show 3 ≠ 53 + ix x210 from by omega), E332, uh]
  refine lv_aload_n hx hb dX6_lifts_352 rfl (lv_at hl 8 rfl) ?_
  refine va_get (D := κ.1) (ci := 6) (v := .ref (kR κ this 1)) (C := RX6) (T := TX6) (N := 27) hx hb hg inX6 hown hK (hT.o20 (hT.k t_this (by decide))).one 0 rfl rfl 1 (by decide) (hg _ k1220) (fun _ h9 => h9) rfl dX6_lifts_353 ?_
  rw [erW]
  refine lv_bipush (v := 53) hx hb dX6_lifts_356 (by decide) ?_
  refine lv_iload_n hx hb dX6_lifts_358 rfl (lv_at hl 6 rfl) ?_
  refine lv_iadd hx hb dX6_lifts_359 ?_
  first | refine g_add (by omega) (by omega) (fun t373 ht373 => ?_) | refine lv_topi (fun t373 ht373 => ?_)
  refine va_lald hx hb hK (hT.o21 (hT.k trW (by decide))).one 0 1 rfl rfl (g_in (by omega) (by omega)) dX6_lifts_360 ?_
  refine lv_topl (fun t374 ht374 => ?_)
  refine lv_aload_n hx hb dX6_lifts_361 rfl (lv_at hl 8 rfl) ?_
  refine va_get (D := κ.1) (ci := 6) (v := .ref (kR κ this 1)) (C := RX6) (T := TX6) (N := 27) hx hb hg inX6 hown hK (hT.o20 (hT.k t_this (by decide))).one 0 rfl rfl 1 (by decide) (hg _ k1220) (fun _ h9 => h9) rfl dX6_lifts_362 ?_
  rw [erW]
  refine lv_iconst (v := 5) hx hb dX6_lifts_365 (by decide) ?_
  refine lv_iload_n hx hb dX6_lifts_366 rfl (lv_at hl 6 rfl) ?_
  refine lv_iadd hx hb dX6_lifts_367 ?_
  first | refine g_add (by omega) (by omega) (fun t375 ht375 => ?_) | refine lv_topi (fun t375 ht375 => ?_)
  refine va_lald hx hb hK (hT.o21 (hT.k trW (by decide))).one 0 1 rfl rfl (g_in (by omega) (by omega)) dX6_lifts_368 ?_
  refine lv_topl (fun t376 ht376 => ?_)
  refine lv_lmul hx hb dX6_lifts_369 ?_
  refine lv_topl (fun t377 ht377 => ?_)
  refine lv_aload_n hx hb dX6_lifts_370 rfl (lv_at hl 8 rfl) ?_
  refine va_get (D := κ.1) (ci := 6) (v := .ref (kR κ this 1)) (C := RX6) (T := TX6) (N := 27) hx hb hg inX6 hown hK (hT.o20 (hT.k t_this (by decide))).one 0 rfl rfl 1 (by decide) (hg _ k1220) (fun _ h9 => h9) rfl dX6_lifts_371 ?_
  rw [erW]
  refine lv_bipush (v := 53) hx hb dX6_lifts_374 (by decide) ?_
  refine lv_iload hx hb dX6_lifts_376 (lv_at hl 5 rfl) ?_
  refine lv_iadd hx hb dX6_lifts_378 ?_
  first | refine g_add (by omega) (by omega) (fun t378 ht378 => ?_) | refine lv_topi (fun t378 ht378 => ?_)
  refine va_lald hx hb hK (hT.o21 (hT.k trW (by decide))).one 0 1 rfl rfl (g_in (by omega) (by omega)) dX6_lifts_379 ?_
  refine lv_topl (fun t379 ht379 => ?_)
  refine lv_aload_n hx hb dX6_lifts_380 rfl (lv_at hl 8 rfl) ?_
  refine va_get (D := κ.1) (ci := 6) (v := .ref (kR κ this 1)) (C := RX6) (T := TX6) (N := 27) hx hb hg inX6 hown hK (hT.o20 (hT.k t_this (by decide))).one 0 rfl rfl 1 (by decide) (hg _ k1220) (fun _ h9 => h9) rfl dX6_lifts_381 ?_
  rw [erW]
  refine lv_iconst (v := 5) hx hb dX6_lifts_384 (by decide) ?_
  refine lv_iload hx hb dX6_lifts_385 (lv_at hl 5 rfl) ?_
  refine lv_iadd hx hb dX6_lifts_387 ?_
  first | refine g_add (by omega) (by omega) (fun t380 ht380 => ?_) | refine lv_topi (fun t380 ht380 => ?_)
  refine va_lald hx hb hK (hT.o21 (hT.k trW (by decide))).one 0 1 rfl rfl (g_in (by omega) (by omega)) dX6_lifts_388 ?_
  refine lv_topl (fun t381 ht381 => ?_)
  refine lv_lmul hx hb dX6_lifts_389 ?_
  refine lv_topl (fun t382 ht382 => ?_)
  refine lv_ladd hx hb dX6_lifts_390 ?_
  refine lv_topl (fun t383 ht383 => ?_)
  refine lv_lsub hx hb dX6_lifts_391 ?_
  refine lv_topl (fun t384 ht384 => ?_)
  have hTo := hT
  refine tastlx (n := 609) hx hb hK hT (hT.k trW (by decide)) ⟨by decide, by decide⟩ (fun _ _ _ => rfl) (fun _ _ => trivial) (by omega) (by omega) (ge3_gW _ (by unfold ix; omega)) dX6_lifts_392 (fun H locs s385 hus385 hT => ?_)
  have E386 : zJ s385 rW = vp_updL (zJ s370 rW) (3) t384 := by rw [zpul_Ja hus385]; exact congrArg (fun q9 => vp_updL (zJ s370 rW) q9 t384) (show ix 3 = 3 from by decide)
  clear ht384 ht383 ht382 ht381 ht380 ht379 ht378 ht377 ht376 ht375 ht374 ht373 yt372 xt372 ht372
  refine lv_aload_n hx hb dX6_lifts_393 rfl (lv_at hl 8 rfl) ?_
  refine va_get (D := κ.1) (ci := 6) (v := .ref (kR κ this 1)) (C := RX6) (T := TX6) (N := 27) hx hb hg inX6 hown hK (hT.o20 (hT.k t_this (by decide))).one 0 rfl rfl 1 (by decide) (hg _ k1220) (fun _ h9 => h9) rfl dX6_lifts_394 ?_
  rw [erW]
  refine lv_bipush (v := 101) hx hb dX6_lifts_397 (by decide) ?_
  refine lv_iload_n hx hb dX6_lifts_399 rfl (lv_at hl 9 rfl) ?_
  refine lv_iadd hx hb dX6_lifts_400 ?_
  first | refine g_add (by omega) (by omega) (fun t387 ht387 => ?_) | refine lv_topi (fun t387 ht387 => ?_)
  refine lv_iload_n hx hb dX6_lifts_401 rfl (lv_at hl 7 rfl) ?_
  refine lv_i2l hx hb dX6_lifts_402 rfl ?_
  refine g_i2l (fun t388 ht388 => ?_)
  have hTo := hT
  refine tastlx (n := 609) hx hb hK hT (hT.k trW (by decide)) ⟨by decide, by decide⟩ (fun _ _ _ => rfl) (fun _ _ => trivial) (by omega) (by omega) (ge3_gW _ (by unfold ix; omega)) dX6_lifts_403 (fun H locs s389 hus389 hT => ?_)
  have E390 : zJ s389 rW = vp_updL (zJ s385 rW) (101 + ix i) t388 := by rw [zpul_Ja hus389]; exact congrArg (fun q9 => vp_updL (zJ s385 rW) q9 t388) (show ix t387 = 101 + ix i from by unfold ix; omega)
  clear ht387
  refine lv_aload_n hx hb dX6_lifts_404 rfl (lv_at hl 8 rfl) ?_
  refine va_get (D := κ.1) (ci := 6) (v := .ref (kR κ this 1)) (C := RX6) (T := TX6) (N := 27) hx hb hg inX6 hown hK (hT.o20 (hT.k t_this (by decide))).one 0 rfl rfl 1 (by decide) (hg _ k1220) (fun _ h9 => h9) rfl dX6_lifts_405 ?_
  rw [erW]
  refine lv_iconst (v := 4) hx hb dX6_lifts_408 (by decide) ?_
  refine lv_dup2_11 hx hb dX6_lifts_409 rfl rfl ?_
  refine va_lald hx hb hK (hT.o21 (hT.k trW (by decide))).one 0 1 rfl rfl (g_in (by omega) (by omega)) dX6_lifts_410 ?_
  refine lv_topl (fun t391 ht391 => ?_)
  have xt391 : ((zJ s389 rW) 4).toInt = t391.toInt := by rw [ht391]; exact congrArg (fun q9 => (zJ s389 rW q9).toInt) (show 4 = ix 4 from by decide)
  have yt391 : t391.toInt = ((zJ σ0 rW) 4).toInt := by rw [← xt391]; show (zJ s389 rW (4)).toInt = _; rw [E390, un d4_101, E386, un (by decide), E371, un d4_5, E366, un d4_5, E360, E352, E345, un d4_53, E337, un d4_53, E332, un (by decide), E311, un d4_r, E305, un d4_r, E299, un d4_r, E292, un d4_r, E285, un d4_r, E280, un d4_r, E273, un d4_r, E268, un d4_r, E262, un d4_r, E256, un d4_r, E241, E232, E221, E212, E203]; try rfl
  refine lv_lconst (v := 1) hx hb dX6_lifts_411 (by decide) ?_
  refine lv_ladd hx hb dX6_lifts_412 ?_
  refine g_addl (by omega) (by omega) (fun t392 ht392 => ?_)
  have hTo := hT
  refine tastlx (n := 609) hx hb hK hT (hT.k trW (by decide)) ⟨by decide, by decide⟩ (fun _ _ _ => rfl) (fun _ _ => trivial) (by omega) (by omega) (ge3_gW _ (by unfold ix; omega)) dX6_lifts_413 (fun H locs s393 hus393 hT => ?_)
  have E394 : zJ s393 rW = vp_updL (zJ s389 rW) (4) t392 := by rw [zpul_Ja hus393]; exact congrArg (fun q9 => vp_updL (zJ s389 rW) q9 t392) (show ix 4 = 4 from by decide)
  clear hBV
  have WL : WI (rN σ0 this) (zJ s393 rW) := hW.liftedE (k := ix i) (p := ix x210) (q := ix x219) (n := ix x201) (s := x239.toInt) (v0 := t250) (v1 := t257) (v2 := t263) (v3 := x230) (v4 := t275) (v5 := x239) (v6 := t287) (v7 := t294) (v8 := t300) (v9 := t306) (v10 := t330) (v11 := t335) (v12 := t343) (v13 := t364) (v14 := t369) (v15 := t384) (v16 := t388) (v17 := t392) (by omega) ⟨by omega, by omega, by omega⟩ (by omega) gp gq ⟨by omega, by omega⟩ (by omega) (by omega) (by omega) (by omega) (by omega) (by omega) (by omega) (by omega) (by omega) (by omega) (by omega) (E256.trans (by rw [E241, E232, E221, E212, E203])) E262 E268 E273 E280 E285 E292 E299 E305 E311 E332 E337 E345 (E366.trans (by rw [E360, E352])) E371 E386 E390 E394
  have RL : RI κ s393 this := h0.extw hT.2.2.1 ⟨rfl, rfl, fun _ => rfl, fun _ => rfl, fun _ => rfl⟩ (by rw [erW]; exact WL)
  have VL : RV (rN σ0 this) (zJ s393 rW) (updi (updi v (ix x210) (v pa + gan u (wt (ix i)) d E F)) (ix x219) (v q + gan u (wt (ix i)) d F E), updi (updi wt (ix x210) E) (ix x219) F, updi la (ix i) (ix x201), updi dt (ix x201) d, ix x201 + 1) := RV.liftedE (k := ix i) (p := ix x210) (q := ix x219) (n := ix x201) (v0 := t250) (v1 := t257) (v2 := t263) (v3 := x230) (v4 := t275) (v5 := x239) (v6 := t287) (v7 := t294) (v8 := t300) (v9 := t306) (v10 := t330) (v11 := t335) (v12 := t343) (v13 := t364) (v14 := t369) (v15 := t384) (v16 := t388) (v17 := t392) h4 (by omega) (by omega) ⟨by omega, by omega, by omega⟩ (by omega) (by omega) xd a11 a12 a13 a14 (by omega) (by omega) (E256.trans (by rw [E241, E232, E221, E212, E203])) E262 E268 E273 E280 E285 E292 E299 E305 E311 E332 E337 E345 (E366.trans (by rw [E360, E352])) E371 E386 E390 E394
  have em : ix x201 = ma := by omega
  rw [ep, eq, em] at VL
  have eL : lft (plf (zI σ0 rP)) rl u (v, wt, la, dt, ma) (ix i) pa q = (updi (updi v pa (v pa + gan u (wt (ix i)) d E F)) q (v q + gan u (wt (ix i)) d F E), updi (updi wt pa E) q F, updi la (ix i) ma, updi dt ma d, ma + 1) := by rw [eE, eF, eD, es9]; rfl
  subst hQ9
  exact t_v hx hb hr hlocks hT ⟨RL, by rw [erW, erP, eL]; exact VL⟩ dX6_lifts_414

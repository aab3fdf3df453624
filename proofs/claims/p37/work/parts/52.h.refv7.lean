/-! The reference with its numbers: bits of a scheme -/
set_option maxHeartbeats 4000000 in
set_option maxRecDepth 100000 in
theorem X6v_bitsOf (l : Launch) (κ : Kt) (σ0 : Gh) (this : Nat) (sp : Int32) (pr : Int32) (t_this : zk σ0 this 20) (h0 : RI κ σ0 this) (h1 : 0 ≤ sp.toInt) (h2 : sp.toInt ≤ 2) (h3 : 0 ≤ pr.toInt) (h4 : pr.toInt ≤ 2) (h5 : ∀ k, k < (rN σ0 this) → -9999 ≤ (plf (zI σ0 (kR κ this 6))) k ∧ (plf (zI σ0 (kR κ this 6))) k ≤ 9999) : TC l yX6_bitsOf cX6_bitsOf 4 (some .int) 7 159 [.ref this, .int sp, .int pr] κ σ0 (tqi κ gYb σ0 (fun (r : Int32) (τ : Gh) => (RI κ τ this) ∧ (∀ j : Nat, j < 3 → zJ τ (kR κ this 1) j = zJ σ0 (kR κ this 1) j) ∧ (∃ Y, Run (rN σ0 this) (plf (zI σ0 (kR κ this 5))) (zI σ0 this 8).toInt sp.toInt pr.toInt ((zJ σ0 (kR κ this 1)) 2).toInt (ini (rN σ0 this) (plf (zI σ0 (kR κ this 5))) (plf (zI σ0 (kR κ this 6)))) Y ∧ r.toInt = bsum Y))) := by
  refine TC.of gYb (by decide +kernel) (Nat.le_of_ble_eq_true rfl) ?_
  intro p e s m below meth c ls hcs hK hX hT hl
  obtain ⟨hx, hb, hr, hml, hown, hg, hlocks, hin⟩ := hcs
  have hown : s.vm.findClass RX6 = some m.cls := hown
  have hl : lv_has ls 4 [(0, .ref this), (1, .int sp), (2, .int pr)] := hl
  have hT0 := hT
  have n0 : (0 : Int32).toInt = 0 := by decide
  have n1 : (1 : Int32).toInt = 1 := by decide
  have n46 : (46 : Int32).toInt = 46 := by decide
  have sp_lo := Int32.le_toInt sp
  have sp_hi := Int32.toInt_lt sp
  have pr_lo := Int32.le_toInt pr
  have pr_hi := Int32.toInt_lt pr
  generalize hQ9 : tQ _ _ _ _ _ _ = Q9
  obtain ⟨rW, erW⟩ : ∃ z, kR κ this 1 = z := ⟨_, rfl⟩
  have trW : zk σ0 rW 21 := by rw [← erW]; exact h0.1.2.1
  obtain ⟨rP, erP⟩ : ∃ z, kR κ this 5 = z := ⟨_, rfl⟩
  have trP : zk σ0 rP 25 := by rw [← erP]; exact h0.1.2.2.2.2
  have hB0 := h0.b
  rw [erW] at hB0
  have hW := h0.2.1
  rw [erW] at hW
  have hP := h0.2.2.1
  rw [erP] at hP
  have hrN : (rN σ0 this : Int) = (zI σ0 this 7).toInt := by unfold rN; omega
  try simp only [erW, erP] at h5
  obtain ⟨rA, erA⟩ : ∃ z, kR κ this 2 = z := ⟨_, rfl⟩
  have trA : zk σ0 rA 30 := by rw [← erA]; exact hT0.ref t_this (by decide) (by decide) (by decide)
  obtain ⟨rF, erF⟩ : ∃ z, kR κ this 6 = z := ⟨_, rfl⟩
  have trF : zk σ0 rF 26 := by rw [← erF]; exact hT0.ref t_this (by decide) (by decide) (by decide)
  try rw [erF] at h5
  have hN48 : 2 ≤ rN σ0 this ∧ rN σ0 this ≤ 48 := hW.1
  have hPI := hP.li
  have wv0_0 : zJ σ0 rW 0 = zJ σ0 rW 0 := rfl
  have wv1_0 : zJ σ0 rW 1 = zJ σ0 rW 1 := rfl
  have wv2_0 : zJ σ0 rW 2 = zJ σ0 rW 2 := rfl
  refine lv_aload_n hx hb dX6_bitsOf_0 rfl (lv_at hl 0 rfl) ?_
  have hTo := hT
  refine tVv (n := 0) (As := []) (rest := []) hx hb hml hown hg hT hK hX (X6_puts l κ σ0 this  (hT.k t_this (by decide)) h0) sub_gA_gYb (mwV k1646 k1648 k78 k92 k1649) ⟨rfl, by decide, by decide, by decide +kernel⟩ ⟨(Nat.le_of_ble_eq_true rfl), (Nat.le_of_ble_eq_true rfl)⟩ (hT.o20 (hT.k t_this (by decide))) rfl rfl hl.1 rfl (Nat.le_of_ble_eq_true rfl) dX6_bitsOf_1 zroom.rf (fun s202 H locs hφ hEs202 hT => ?_)
  have R203 : RI κ s202 this := h0.ext hEs202 ⟨rfl, rfl, fun _ => rfl, fun _ => rfl, fun _ => rfl, fun _ => rfl⟩
  have B204 := R203.b
  rw [erW] at B204
  have K205 : zI s202 this 7 = zI σ0 this 7 := hT.eI t_this (by decide) rfl rfl
  have K205n : (zI s202 this 7).toInt = (zI σ0 this 7).toInt := by rw [K205]
  have K205r : rN s202 this = rN σ0 this := by unfold rN; rw [K205]
  have P206 : zI s202 rP = zI σ0 rP := funext fun k => hT.eI trP (by decide) rfl rfl
  try simp only [K205, K205r, P206] at B204
  have wv207 : zJ s202 rW 0 = zJ σ0 rW 0 := ((hTo.k trW (by decide)).eJ hEs202 (by decide) rfl).trans wv0_0
  have wv208 : zJ s202 rW 1 = zJ σ0 rW 1 := ((hTo.k trW (by decide)).eJ hEs202 (by decide) rfl).trans wv1_0
  have wv209 : zJ s202 rW 2 = zJ σ0 rW 2 := ((hTo.k trW (by decide)).eJ hEs202 (by decide) rfl).trans wv2_0
  have f210 := hφ
  try simp only [erW, erP, ix_0, ix_1, ix_2, ix_3, ix_4, ix_5, ix_6, ix_7, ix_8, ix_9, K205, K205r, P206] at f210
  have wv211 : zJ s202 rA 0 = zJ σ0 rW 0 := by have z9 := f210 0 (by decide); (try rw [erW] at z9); (try rw [erA] at z9); exact z9.trans wv0_0
  have wv212 : zJ s202 rA 1 = zJ σ0 rW 1 := by have z9 := f210 1 (by decide); (try rw [erW] at z9); (try rw [erA] at z9); exact z9.trans wv1_0
  have wv213 : zJ s202 rA 2 = zJ σ0 rW 2 := by have z9 := f210 2 (by decide); (try rw [erW] at z9); (try rw [erA] at z9); exact z9.trans wv2_0
  have EE214 : zJ s202 rW = zJ σ0 rW := funext fun k => (hTo.k trW (by decide)).eJ hEs202 (by decide) rfl
  rw [erA] at f210
  have A215 : WI (rN s202 this) (zJ s202 rA) := R203.2.1.of609 (fun j hj => by rw [erW, EE214]; exact f210 j hj)
  refine lv_aload_n hx hb dX6_bitsOf_4 rfl (lv_at hl 0 rfl) ?_
  refine va_get (D := κ.1) (ci := 6) (v := .ref (kR κ this 1)) (C := RX6) (T := TX6) (N := 27) hx hb hg inX6 hown hK (hT.o20 (hT.k t_this (by decide))).one 0 rfl rfl 1 (by decide) (hg _ k1220) (fun _ h9 => h9) rfl dX6_bitsOf_5 ?_
  rw [erW]
  refine lv_iconst (v := 0) hx hb dX6_bitsOf_8 (by decide) ?_
  refine lv_iload_n hx hb dX6_bitsOf_9 rfl (lv_at hl 1 rfl) ?_
  refine lv_i2l hx hb dX6_bitsOf_10 rfl ?_
  refine g_i2l (fun t216 ht216 => ?_)
  have hTo := hT
  refine tastl (n := 609) hx hb hK hT (hT.k trW (by decide)) ⟨by decide, by decide⟩ (fun _ _ _ => rfl) (fun _ _ => trivial) (fun _ => rfl) (by omega) (by omega) dX6_bitsOf_11 (fun H locs s217 hus217 hT => ?_)
  have A218 : WI (rN s217 this) (zJ s217 rA) := by rw [show zJ s217 rA = zJ s202 rA from zpul_Jo hus217 ((hTo.k trA (by decide)).ne (hTo.k trW (by decide)) (by decide)), show rN s217 this = rN s202 this from by unfold rN; rw [zpul_I hus217]]; exact A215
  have R219 : RI κ s217 this := R203.pulw hus217 erW (nrel (by unfold ix; omega))
  have B220 := R219.b
  rw [erW] at B220
  have K221 : zI s217 this 7 = zI σ0 this 7 := hT.eI t_this (by decide) rfl rfl
  have K221n : (zI s217 this 7).toInt = (zI σ0 this 7).toInt := by rw [K221]
  have K221r : rN s217 this = rN σ0 this := by unfold rN; rw [K221]
  have P222 : zI s217 rP = zI σ0 rP := funext fun k => hT.eI trP (by decide) rfl rfl
  try simp only [K221, K221r, P222] at B220
  have wv223 : zJ s217 rW 0 = t216 := by rw [zpul_Ja hus217]; exact if_pos (by decide)
  have wv224 : zJ s217 rW 1 = zJ σ0 rW 1 := (show zJ s217 rW 1 = zJ s202 rW 1 from by rw [zpul_Ja hus217]; exact if_neg (show 1 ≠ ix 0 from by decide)).trans wv208
  have wv225 : zJ s217 rW 2 = zJ σ0 rW 2 := (show zJ s217 rW 2 = zJ s202 rW 2 from by rw [zpul_Ja hus217]; exact if_neg (show 2 ≠ ix 0 from by decide)).trans wv209
  have wv226 : zJ s217 rA 0 = zJ σ0 rW 0 := (congrFun (zpul_Jo hus217 ((hTo.k trA (by decide)).ne (hTo.k trW (by decide)) (by decide))) 0).trans wv211
  have wv227 : zJ s217 rA 1 = zJ σ0 rW 1 := (congrFun (zpul_Jo hus217 ((hTo.k trA (by decide)).ne (hTo.k trW (by decide)) (by decide))) 1).trans wv212
  have wv228 : zJ s217 rA 2 = zJ σ0 rW 2 := (congrFun (zpul_Jo hus217 ((hTo.k trA (by decide)).ne (hTo.k trW (by decide)) (by decide))) 2).trans wv213
  refine lv_aload_n hx hb dX6_bitsOf_12 rfl (lv_at hl 0 rfl) ?_
  refine va_get (D := κ.1) (ci := 6) (v := .ref (kR κ this 1)) (C := RX6) (T := TX6) (N := 27) hx hb hg inX6 hown hK (hT.o20 (hT.k t_this (by decide))).one 0 rfl rfl 1 (by decide) (hg _ k1220) (fun _ h9 => h9) rfl dX6_bitsOf_13 ?_
  rw [erW]
  refine lv_iconst (v := 1) hx hb dX6_bitsOf_16 (by decide) ?_
  refine lv_iload_n hx hb dX6_bitsOf_17 rfl (lv_at hl 2 rfl) ?_
  refine lv_i2l hx hb dX6_bitsOf_18 rfl ?_
  refine g_i2l (fun t229 ht229 => ?_)
  have hTo := hT
  refine tastl (n := 609) hx hb hK hT (hT.k trW (by decide)) ⟨by decide, by decide⟩ (fun _ _ _ => rfl) (fun _ _ => trivial) (fun _ => rfl) (by omega) (by omega) dX6_bitsOf_19 (fun H locs s230 hus230 hT => ?_)
  have A231 : WI (rN s230 this) (zJ s230 rA) := by rw [show zJ s230 rA = zJ s217 rA from zpul_Jo hus230 ((hTo.k trA (by decide)).ne (hTo.k trW (by decide)) (by decide)), show rN s230 this = rN s217 this from by unfold rN; rw [zpul_I hus230]]; exact A218
  have R232 : RI κ s230 this := R219.pulw hus230 erW (nrel (by unfold ix; omega))
  have B233 := R232.b
  rw [erW] at B233
  have K234 : zI s230 this 7 = zI σ0 this 7 := hT.eI t_this (by decide) rfl rfl
  have K234n : (zI s230 this 7).toInt = (zI σ0 this 7).toInt := by rw [K234]
  have K234r : rN s230 this = rN σ0 this := by unfold rN; rw [K234]
  have P235 : zI s230 rP = zI σ0 rP := funext fun k => hT.eI trP (by decide) rfl rfl
  try simp only [K234, K234r, P235] at B233
  have wv236 : zJ s230 rW 0 = t216 := (show zJ s230 rW 0 = zJ s217 rW 0 from by rw [zpul_Ja hus230]; exact if_neg (show 0 ≠ ix 1 from by decide)).trans wv223
  have wv237 : zJ s230 rW 1 = t229 := by rw [zpul_Ja hus230]; exact if_pos (by decide)
  have wv238 : zJ s230 rW 2 = zJ σ0 rW 2 := (show zJ s230 rW 2 = zJ s217 rW 2 from by rw [zpul_Ja hus230]; exact if_neg (show 2 ≠ ix 1 from by decide)).trans wv225
  have wv239 : zJ s230 rA 0 = zJ σ0 rW 0 := (congrFun (zpul_Jo hus230 ((hTo.k trA (by decide)).ne (hTo.k trW (by decide)) (by decide))) 0).trans wv226
  have wv240 : zJ s230 rA 1 = zJ σ0 rW 1 := (congrFun (zpul_Jo hus230 ((hTo.k trA (by decide)).ne (hTo.k trW (by decide)) (by decide))) 1).trans wv227
  have wv241 : zJ s230 rA 2 = zJ σ0 rW 2 := (congrFun (zpul_Jo hus230 ((hTo.k trA (by decide)).ne (hTo.k trW (by decide)) (by decide))) 2).trans wv228
  refine lv_aload_n hx hb dX6_bitsOf_20 rfl (lv_at hl 0 rfl) ?_
  have hTo := hT
  refine tVv (n := 0) (As := []) (rest := []) hx hb hml hown hg hT hK hX (X6v_anew l κ s230 this  (hT.k t_this (by decide)) R232.2.2.1 (by omega) (by omega)) sub_gW_gYb (mwV k1214 k1216 k35 k92 k1217) ⟨rfl, by decide, by decide, by decide +kernel⟩ ⟨(Nat.le_of_ble_eq_true rfl), (Nat.le_of_ble_eq_true rfl)⟩ (hT.o20 (hT.k t_this (by decide))) rfl rfl hl.1 rfl (Nat.le_of_ble_eq_true rfl) dX6_bitsOf_21 zroom.rf (fun s243 H locs hφ hEs243 hT => ?_)
  have A244 : WI (rN s243 this) (zJ s243 rA) := by rw [show zJ s243 rA = zJ s230 rA from funext fun k => (hTo.k trA (by decide)).eJ hEs243 (by decide) rfl, show rN s243 this = rN s230 this from by unfold rN; rw [(hTo.k t_this (by decide)).eI hEs243 (by decide) rfl]]; exact A231
  have wv246 : zJ s243 rW 0 = t216 := ((hTo.k trW (by decide)).eJ hEs243 (by decide) (lt3_gW 0 (by decide))).trans wv236
  have wv247 : zJ s243 rW 1 = t229 := ((hTo.k trW (by decide)).eJ hEs243 (by decide) (lt3_gW 1 (by decide))).trans wv237
  have wv248 : zJ s243 rW 2 = zJ σ0 rW 2 := ((hTo.k trW (by decide)).eJ hEs243 (by decide) (lt3_gW 2 (by decide))).trans wv238
  have wv249 : zJ s243 rA 0 = zJ σ0 rW 0 := ((hTo.k trA (by decide)).eJ hEs243 (by decide) rfl).trans wv239
  have wv250 : zJ s243 rA 1 = zJ σ0 rW 1 := ((hTo.k trA (by decide)).eJ hEs243 (by decide) rfl).trans wv240
  have wv251 : zJ s243 rA 2 = zJ σ0 rW 2 := ((hTo.k trA (by decide)).eJ hEs243 (by decide) rfl).trans wv241
  obtain ⟨f252, f253⟩ := hφ
  have K254 : zI s243 this 7 = zI σ0 this 7 := hT.eI t_this (by decide) rfl rfl
  have K254n : (zI s243 this 7).toInt = (zI σ0 this 7).toInt := by rw [K254]
  have K254r : rN s243 this = rN σ0 this := by unfold rN; rw [K254]
  have P255 : zI s243 rP = zI σ0 rP := funext fun k => hT.eI trP (by decide) rfl rfl
  try simp only [erW, erP, ix_0, ix_1, ix_2, ix_3, ix_4, ix_5, ix_6, ix_7, ix_8, ix_9, K234, K234r, P235, K254, K254r, P255] at f252
  try simp only [erW, erP, ix_0, ix_1, ix_2, ix_3, ix_4, ix_5, ix_6, ix_7, ix_8, ix_9, K234, K234r, P235, K254, K254r, P255] at f253
  have R256 : RI κ s243 this := R232.extw hEs243 ⟨rfl, rfl, fun _ => rfl, fun _ => rfl, fun _ => rfl⟩ (by first | exact f252 | (rw [erW]; exact f252))
  have B257 := R256.b
  rw [erW] at B257
  try simp only [K254, K254r, P255] at B257
  have rn9 : rN s243 this = rN σ0 this := by unfold rN; rw [hT.eI t_this (by decide) rfl rfl]
  have pp9 : zI s243 rP = zI σ0 rP := funext fun k => hT.eI trP (by decide) rfl rfl
  have ff9 : zI s243 rF = zI σ0 rF := funext fun k => hT.eI trF (by decide) rfl rfl
  have le9 : zI s243 this 8 = zI σ0 this 8 := hT.eI t_this (by decide) rfl rfl
  have rv9 : RV (rN σ0 this) (zJ s243 rW) (ini (rN σ0 this) (plf (zI σ0 rP)) (plf (zI σ0 rF))) := by have z9 := f253; (try rw [erW] at z9); (try rw [erP] at z9); (try rw [erF] at z9); (try rw [show rN s230 this = rN σ0 this from by unfold rN; rw [hTo.eI t_this (by decide) rfl rfl]] at z9); (try rw [show zI s230 rP = zI σ0 rP from funext fun k => hTo.eI trP (by decide) rfl rfl] at z9); (try rw [show zI s230 rF = zI σ0 rF from funext fun k => hTo.eI trF (by decide) rfl rfl] at z9); exact z9
  have x09 := wv246
  have x19 := wv247
  have x29 := wv248
  refine lv_aload_n hx hb dX6_bitsOf_24 rfl (lv_at hl 0 rfl) ?_
  refine lv_bipush (v := 46) hx hb dX6_bitsOf_25 (by decide) ?_
  have hTo := hT
  refine tVi (n := 1) (As := [.int 46]) (rest := []) hx hb hml hown hg hT hK hX (X6v_goesOn l κ s243 this 46  (hT.k t_this (by decide)) R256 n46 (by rw [erW, erP, erF, rn9, pp9, ff9]; exact rv9) (by rw [erW, x19]; omega) (by rw [erF, ff9, rn9]; exact h5)) sub_gW_gYb (mwV k1588 k1590 k71 k92 k1591) ⟨rfl, by decide, by decide, by decide +kernel⟩ ⟨(Nat.le_of_ble_eq_true rfl), (Nat.le_of_ble_eq_true rfl)⟩ (hT.o20 (hT.k t_this (by decide))) rfl rfl hl.1 rfl (Nat.le_of_ble_eq_true rfl) dX6_bitsOf_27 zroom.rf (fun x258 s259 H locs hφ hEs259 hT => ?_)
  have A260 : WI (rN s259 this) (zJ s259 rA) := by rw [show zJ s259 rA = zJ s243 rA from funext fun k => (hTo.k trA (by decide)).eJ hEs259 (by decide) rfl, show rN s259 this = rN s243 this from by unfold rN; rw [(hTo.k t_this (by decide)).eI hEs259 (by decide) rfl]]; exact A244
  have wv262 : zJ s259 rW 0 = t216 := ((hTo.k trW (by decide)).eJ hEs259 (by decide) (lt3_gW 0 (by decide))).trans wv246
  have wv263 : zJ s259 rW 1 = t229 := ((hTo.k trW (by decide)).eJ hEs259 (by decide) (lt3_gW 1 (by decide))).trans wv247
  have wv264 : zJ s259 rW 2 = zJ σ0 rW 2 := ((hTo.k trW (by decide)).eJ hEs259 (by decide) (lt3_gW 2 (by decide))).trans wv248
  have wv265 : zJ s259 rA 0 = zJ σ0 rW 0 := ((hTo.k trA (by decide)).eJ hEs259 (by decide) rfl).trans wv249
  have wv266 : zJ s259 rA 1 = zJ σ0 rW 1 := ((hTo.k trA (by decide)).eJ hEs259 (by decide) rfl).trans wv250
  have wv267 : zJ s259 rA 2 = zJ σ0 rW 2 := ((hTo.k trA (by decide)).eJ hEs259 (by decide) rfl).trans wv251
  obtain ⟨f268, f269⟩ := hφ
  have B270 := f268.b
  rw [erW] at B270
  have K271 : zI s259 this 7 = zI σ0 this 7 := hT.eI t_this (by decide) rfl rfl
  have K271n : (zI s259 this 7).toInt = (zI σ0 this 7).toInt := by rw [K271]
  have K271r : rN s259 this = rN σ0 this := by unfold rN; rw [K271]
  have P272 : zI s259 rP = zI σ0 rP := funext fun k => hT.eI trP (by decide) rfl rfl
  try simp only [K271, K271r, P272] at B270
  try simp only [erW, erP, ix_0, ix_1, ix_2, ix_3, ix_4, ix_5, ix_6, ix_7, ix_8, ix_9, K254, K254r, P255, K271, K271r, P272] at f269
  have ru9 : ∃ Y, RV (rN σ0 this) (zJ s259 rW) Y ∧ Run (rN σ0 this) (plf (zI σ0 rP)) (zI σ0 this 8).toInt sp.toInt pr.toInt ((zJ σ0 rW) 2).toInt (ini (rN σ0 this) (plf (zI σ0 rP)) (plf (zI σ0 rF))) Y := by have z9 := f269; (try rw [erW] at z9); (try rw [erP] at z9); (try rw [erF] at z9); (try rw [rn9] at z9); (try rw [pp9] at z9); (try rw [ff9] at z9); (try rw [le9] at z9); rw [x09, x19, x29] at z9; rw [show sp.toInt = t216.toInt from by omega, show pr.toInt = t229.toInt from by omega]; exact z9
  obtain ⟨Y9, hRV, hRun⟩ := ru9
  obtain ⟨n9, hn9, hRn, hRe⟩ := hRun
  have hdb := hRn.db hN48 hPI (by omega) h5 hn9
  have hm9 := hRV.2.2.2.2
  refine lv_istore_n (lv' := [(3, .int x258), (0, .ref this), (1, .int sp), (2, .int pr)]) hx hb dX6_bitsOf_30 rfl hl (by decide) rfl (fun ls hl => ?_)
  refine lv_aload_n hx hb dX6_bitsOf_31 rfl (lv_at hl 1 rfl) ?_
  have hTo := hT
  refine tVi (n := 0) (As := []) (rest := []) hx hb hml hown hg hT hK hX (X6v_bitsNow l κ s259 this  (hT.k t_this (by decide)) f268 (fun j hj => by rw [erW] at hj ⊢; rw [hRV.2.2.2.1 j (by omega)]; exact hdb j (by omega))) sub_fE_gYb (mwV k1506 k1508 k61 k92 k1509) ⟨rfl, by decide, by decide, by decide +kernel⟩ ⟨(Nat.le_of_ble_eq_true rfl), (Nat.le_of_ble_eq_true rfl)⟩ (hT.o20 (hT.k t_this (by decide))) rfl rfl hl.1 rfl (Nat.le_of_ble_eq_true rfl) dX6_bitsOf_32 zroom.rf (fun x273 s274 H locs hφ hEs274 hT => ?_)
  have A275 : WI (rN s274 this) (zJ s274 rA) := by rw [show zJ s274 rA = zJ s259 rA from funext fun k => (hTo.k trA (by decide)).eJ hEs274 (by decide) rfl, show rN s274 this = rN s259 this from by unfold rN; rw [(hTo.k t_this (by decide)).eI hEs274 (by decide) rfl]]; exact A260
  have R276 : RI κ s274 this := f268.ext hEs274 ⟨rfl, rfl, fun _ => rfl, fun _ => rfl, fun _ => rfl, fun _ => rfl⟩
  have B277 := R276.b
  rw [erW] at B277
  have K278 : zI s274 this 7 = zI σ0 this 7 := hT.eI t_this (by decide) rfl rfl
  have K278n : (zI s274 this 7).toInt = (zI σ0 this 7).toInt := by rw [K278]
  have K278r : rN s274 this = rN σ0 this := by unfold rN; rw [K278]
  have P279 : zI s274 rP = zI σ0 rP := funext fun k => hT.eI trP (by decide) rfl rfl
  try simp only [K278, K278r, P279] at B277
  have wv280 : zJ s274 rW 0 = t216 := ((hTo.k trW (by decide)).eJ hEs274 (by decide) rfl).trans wv262
  have wv281 : zJ s274 rW 1 = t229 := ((hTo.k trW (by decide)).eJ hEs274 (by decide) rfl).trans wv263
  have wv282 : zJ s274 rW 2 = zJ σ0 rW 2 := ((hTo.k trW (by decide)).eJ hEs274 (by decide) rfl).trans wv264
  have wv283 : zJ s274 rA 0 = zJ σ0 rW 0 := ((hTo.k trA (by decide)).eJ hEs274 (by decide) rfl).trans wv265
  have wv284 : zJ s274 rA 1 = zJ σ0 rW 1 := ((hTo.k trA (by decide)).eJ hEs274 (by decide) rfl).trans wv266
  have wv285 : zJ s274 rA 2 = zJ σ0 rW 2 := ((hTo.k trA (by decide)).eJ hEs274 (by decide) rfl).trans wv267
  have f286 := hφ
  try simp only [erW, erP, ix_0, ix_1, ix_2, ix_3, ix_4, ix_5, ix_6, ix_7, ix_8, ix_9, K271, K271r, P272, K278, K278r, P279] at f286
  have xb9 : x273.toInt = bsum Y9 := by have z9 := f286; (try rw [erW] at z9); exact z9.trans hRV.bits
  refine lv_istore_n (lv' := [(3, .int x273), (0, .ref this), (1, .int sp), (2, .int pr)]) hx hb dX6_bitsOf_35 rfl hl (by decide) rfl (fun ls hl => ?_)
  refine lv_aload_n hx hb dX6_bitsOf_36 rfl (lv_at hl 1 rfl) ?_
  have hTo := hT
  refine tVv (n := 0) (As := []) (rest := []) hx hb hml hown hg hT hK hX (X6_takesBack l κ s274 this  (hT.k t_this (by decide)) R276) sub_gWb_gYb (mwV k1654 k1656 k80 k92 k1657) ⟨rfl, by decide, by decide, by decide +kernel⟩ ⟨(Nat.le_of_ble_eq_true rfl), (Nat.le_of_ble_eq_true rfl)⟩ (hT.o20 (hT.k t_this (by decide))) rfl rfl hl.1 rfl (Nat.le_of_ble_eq_true rfl) dX6_bitsOf_37 zroom.rf (fun s288 H locs hφ hEs288 hT => ?_)
  have A289 : WI (rN s288 this) (zJ s288 rA) := by rw [show zJ s288 rA = zJ s274 rA from funext fun k => (hTo.k trA (by decide)).eJ hEs288 (by decide) rfl, show rN s288 this = rN s274 this from by unfold rN; rw [(hTo.k t_this (by decide)).eI hEs288 (by decide) rfl]]; exact A275
  have wv291 : zJ s288 rA 0 = zJ σ0 rW 0 := ((hTo.k trA (by decide)).eJ hEs288 (by decide) rfl).trans wv283
  have wv292 : zJ s288 rA 1 = zJ σ0 rW 1 := ((hTo.k trA (by decide)).eJ hEs288 (by decide) rfl).trans wv284
  have wv293 : zJ s288 rA 2 = zJ σ0 rW 2 := ((hTo.k trA (by decide)).eJ hEs288 (by decide) rfl).trans wv285
  have f294 := hφ
  have K295 : zI s288 this 7 = zI σ0 this 7 := hT.eI t_this (by decide) rfl rfl
  have K295n : (zI s288 this 7).toInt = (zI σ0 this 7).toInt := by rw [K295]
  have K295r : rN s288 this = rN σ0 this := by unfold rN; rw [K295]
  have P296 : zI s288 rP = zI σ0 rP := funext fun k => hT.eI trP (by decide) rfl rfl
  try simp only [erW, erP, ix_0, ix_1, ix_2, ix_3, ix_4, ix_5, ix_6, ix_7, ix_8, ix_9, K278, K278r, P279, K295, K295r, P296] at f294
  have wv297 : zJ s288 rW 0 = zJ σ0 rW 0 := by have z9 := f294 0 (by decide); (try rw [erW] at z9); (try rw [erA] at z9); exact z9.trans wv283
  have wv298 : zJ s288 rW 1 = zJ σ0 rW 1 := by have z9 := f294 1 (by decide); (try rw [erW] at z9); (try rw [erA] at z9); exact z9.trans wv284
  have wv299 : zJ s288 rW 2 = zJ σ0 rW 2 := by have z9 := f294 2 (by decide); (try rw [erW] at z9); (try rw [erA] at z9); exact z9.trans wv285
  rw [erA] at f294
  have R300 : RI κ s288 this := R276.extw hEs288 ⟨rfl, rfl, fun _ => rfl, fun _ => rfl, fun _ => rfl⟩ (by rw [erW]; exact A275.of609 (fun j hj => f294 j hj))
  have B301 := R300.b
  rw [erW] at B301
  try simp only [K295, K295r, P296] at B301
  refine lv_iload_n hx hb dX6_bitsOf_40 rfl (lv_at hl 0 rfl) ?_
  subst hQ9
  exact t_i hx hb hr hlocks hT ⟨R300, by rw [erW]; exact (fun j hj => by rcases (show j = 0 ∨ j = 1 ∨ j = 2 by omega) with rfl | rfl | rfl <;> first | exact wv297 | exact wv298 | exact wv299), by rw [erW, erP, erF]; exact ⟨Y9, ⟨n9, hn9, hRn, hRe⟩, xb9⟩⟩ dX6_bitsOf_41
set_option maxHeartbeats 4000000 in
set_option maxRecDepth 100000 in
theorem X6v_bitsBy (l : Launch) (κ : Kt) (σ0 : Gh) (this : Nat) (x : Int32) (z : Int32) (t_this : zk σ0 this 20) (h0 : RI κ σ0 this) (h1 : True) (h2 : True) (h3 : ∀ k, k < (rN σ0 this) → -9999 ≤ (plf (zI σ0 (kR κ this 6))) k ∧ (plf (zI σ0 (kR κ this 6))) k ≤ 9999) : TC l yX6_bitsBy cX6_bitsBy 3 (some .int) 8 182 [.ref this, .int x, .int z] κ σ0 (tqi κ gZb σ0 (fun (r : Int32) (τ : Gh) => (RI κ τ this) ∧ (∀ j : Nat, j < 3 → zJ τ (kR κ this 1) j = zJ σ0 (kR κ this 1) j) ∧ (((zI τ this 0).toInt = 1 ∧ (x.toInt < 0 ∨ 2 < x.toInt ∨ z.toInt < 0 ∨ 2 < z.toInt)) ∨ ((zI τ this 0).toInt = 0 ∧ 0 ≤ x.toInt ∧ x.toInt ≤ 2 ∧ 0 ≤ z.toInt ∧ z.toInt ≤ 2 ∧ ∃ Y, Run (rN σ0 this) (plf (zI σ0 (kR κ this 5))) (zI σ0 this 8).toInt x.toInt z.toInt ((zJ σ0 (kR κ this 1)) 2).toInt (ini (rN σ0 this) (plf (zI σ0 (kR κ this 5))) (plf (zI σ0 (kR κ this 6)))) Y ∧ r.toInt = bsum Y)))) := by
  refine TC.of gZb (by decide +kernel) (Nat.le_of_ble_eq_true rfl) ?_
  intro p e s m below meth c ls hcs hK hX hT hl
  obtain ⟨hx, hb, hr, hml, hown, hg, hlocks, hin⟩ := hcs
  have hown : s.vm.findClass RX6 = some m.cls := hown
  have hl : lv_has ls 3 [(0, .ref this), (1, .int x), (2, .int z)] := hl
  have hT0 := hT
  have n0 : (0 : Int32).toInt = 0 := by decide
  have n1 : (1 : Int32).toInt = 1 := by decide
  have j0 : (0 : Int64).toInt = 0 := by decide
  have j2 : (2 : Int64).toInt = 2 := by decide
  have x_lo := Int32.le_toInt x
  have x_hi := Int32.toInt_lt x
  have z_lo := Int32.le_toInt z
  have z_hi := Int32.toInt_lt z
  generalize hQ9 : tQ _ _ _ _ _ _ = Q9
  obtain ⟨rW, erW⟩ : ∃ z, kR κ this 1 = z := ⟨_, rfl⟩
  have trW : zk σ0 rW 21 := by rw [← erW]; exact h0.1.2.1
  obtain ⟨rP, erP⟩ : ∃ z, kR κ this 5 = z := ⟨_, rfl⟩
  have trP : zk σ0 rP 25 := by rw [← erP]; exact h0.1.2.2.2.2
  have hB0 := h0.b
  rw [erW] at hB0
  have hW := h0.2.1
  rw [erW] at hW
  have hP := h0.2.2.1
  rw [erP] at hP
  have hrN : (rN σ0 this : Int) = (zI σ0 this 7).toInt := by unfold rN; omega
  try simp only [erW, erP] at h3
  have wv0_0 : zJ σ0 rW 0 = zJ σ0 rW 0 := rfl
  have wv1_0 : zJ σ0 rW 1 = zJ σ0 rW 1 := rfl
  have wv2_0 : zJ σ0 rW 2 = zJ σ0 rW 2 := rfl
  refine lv_aload_n hx hb dX6_bitsBy_0 rfl (lv_at hl 0 rfl) ?_
  refine lv_iload_n hx hb dX6_bitsBy_1 rfl (lv_at hl 1 rfl) ?_
  refine lv_i2l hx hb dX6_bitsBy_2 rfl ?_
  refine g_i2l (fun t201 ht201 => ?_)
  refine lv_lconst (v := 0) hx hb dX6_bitsBy_3 (by decide) ?_
  refine lv_ldc2 hx hb hown (hg _ k1510) dX6_bitsBy_4 ?_
  have hTo := hT
  refine tSi (n := 3) (As := [.long t201, .long 0, .long 2]) (rest := [.ref this]) hx hb hml hown hg hT hK hX (X6_in l κ σ0 t201 0 2   ) sub_fE_gZb (mwS k1317 k1318 k92 k1319) ⟨rfl, by decide, by decide, by decide +kernel⟩ ⟨(Nat.le_of_ble_eq_true rfl), (Nat.le_of_ble_eq_true rfl)⟩ rfl hl.1 rfl (Nat.le_of_ble_eq_true rfl) dX6_bitsBy_7 zroom.rf (fun x202 s203 H locs hφ hEs203 hT => ?_)
  have R204 : RI κ s203 this := h0.ext hEs203 ⟨rfl, rfl, fun _ => rfl, fun _ => rfl, fun _ => rfl, fun _ => rfl⟩
  have B205 := R204.b
  rw [erW] at B205
  have K206 : zI s203 this 7 = zI σ0 this 7 := hT.eI t_this (by decide) rfl rfl
  have K206n : (zI s203 this 7).toInt = (zI σ0 this 7).toInt := by rw [K206]
  have K206r : rN s203 this = rN σ0 this := by unfold rN; rw [K206]
  have P207 : zI s203 rP = zI σ0 rP := funext fun k => hT.eI trP (by decide) rfl rfl
  try simp only [K206, K206r, P207] at B205
  have wv208 : zJ s203 rW 0 = zJ σ0 rW 0 := ((hTo.k trW (by decide)).eJ hEs203 (by decide) rfl).trans wv0_0
  have wv209 : zJ s203 rW 1 = zJ σ0 rW 1 := ((hTo.k trW (by decide)).eJ hEs203 (by decide) rfl).trans wv1_0
  have wv210 : zJ s203 rW 2 = zJ σ0 rW 2 := ((hTo.k trW (by decide)).eJ hEs203 (by decide) rfl).trans wv2_0
  obtain ⟨f211, f212⟩ := hφ
  try simp only [erW, erP, ix_0, ix_1, ix_2, ix_3, ix_4, ix_5, ix_6, ix_7, ix_8, ix_9, K206, K206r, P207] at f211
  refine lv_if_eq (tgt := 29) hx hb dX6_bitsBy_10 (by decide) (fun c9 => ?_) (fun c9 => ?_)
  · have c1 := gi_eq c9
    refine lv_iconst (v := 1) hx hb dX6_bitsBy_29 (by decide) ?_
    have hTo := hT
    refine pf20_0 hx hb hg hown hK hT (hT.k t_this (by decide)) rfl (hg _ k1219) dX6_bitsBy_30 (fun H locs s213 hus213 hT => ?_)
    have R214 : RI κ s213 this := R204.put hus213 (hTo.k t_this (by decide)) (by decide)
    have B215 := R214.b
    rw [erW] at B215
    have K216 : zI s213 this 7 = zI σ0 this 7 := hT.eI t_this (by decide) rfl rfl
    have K216n : (zI s213 this 7).toInt = (zI σ0 this 7).toInt := by rw [K216]
    have K216r : rN s213 this = rN σ0 this := by unfold rN; rw [K216]
    have P217 : zI s213 rP = zI σ0 rP := funext fun k => hT.eI trP (by decide) rfl rfl
    try simp only [K216, K216r, P217] at B215
    have wv218 : zJ s213 rW 0 = zJ σ0 rW 0 := (congrFun (zput_J (x := rW) hus213) 0).trans wv208
    have wv219 : zJ s213 rW 1 = zJ σ0 rW 1 := (congrFun (zput_J (x := rW) hus213) 1).trans wv209
    have wv220 : zJ s213 rW 2 = zJ σ0 rW 2 := (congrFun (zput_J (x := rW) hus213) 2).trans wv210
    have e221 : zI s213 this 0 = 1 := zput_at hus213
    refine lv_aload_n hx hb dX6_bitsBy_33 rfl (lv_at hl 0 rfl) ?_
    refine va_get (D := κ.1) (ci := 6) (v := .int (zI s213 this 0)) (C := RX6) (T := TX6) (N := 27) hx hb hg inX6 hown hK (hT.o20 (hT.k t_this (by decide))).one 0 rfl rfl 0 (by decide) (hg _ k1219) (fun _ h9 => h9) rfl dX6_bitsBy_34 ?_
    rw [e221]
    refine lv_if_le (tgt := 44) hx hb dX6_bitsBy_37 (by decide) (fun c9 => absurd c9 (by decide)) (fun _ => ?_)
    refine lv_iconst (v := 0) hx hb dX6_bitsBy_40 (by decide) ?_
    refine lv_goto (tgt := 50) hx hb dX6_bitsBy_41 (by decide) ?_
    subst hQ9
    exact t_i hx hb hr hlocks hT ⟨R214, by rw [erW]; exact (fun j hj => by rcases (show j = 0 ∨ j = 1 ∨ j = 2 by omega) with rfl | rfl | rfl <;> first | exact wv218 | exact wv219 | exact wv220), Or.inl ⟨by rw [e221]; exact n1, by omega⟩⟩ dX6_bitsBy_50
  · have c2 := gi_ne c9
    refine lv_iload_n hx hb dX6_bitsBy_13 rfl (lv_at hl 2 rfl) ?_
    refine lv_i2l hx hb dX6_bitsBy_14 rfl ?_
    refine g_i2l (fun t222 ht222 => ?_)
    refine lv_lconst (v := 0) hx hb dX6_bitsBy_15 (by decide) ?_
    refine lv_ldc2 hx hb hown (hg _ k1510) dX6_bitsBy_16 ?_
    have hTo := hT
    refine tSi (n := 3) (As := [.long t222, .long 0, .long 2]) (rest := [.ref this]) hx hb hml hown hg hT hK hX (X6_in l κ s203 t222 0 2   ) sub_fE_gZb (mwS k1317 k1318 k92 k1319) ⟨rfl, by decide, by decide, by decide +kernel⟩ ⟨(Nat.le_of_ble_eq_true rfl), (Nat.le_of_ble_eq_true rfl)⟩ rfl hl.1 rfl (Nat.le_of_ble_eq_true rfl) dX6_bitsBy_19 zroom.rf (fun x223 s224 H locs hφ hEs224 hT => ?_)
    have R225 : RI κ s224 this := R204.ext hEs224 ⟨rfl, rfl, fun _ => rfl, fun _ => rfl, fun _ => rfl, fun _ => rfl⟩
    have B226 := R225.b
    rw [erW] at B226
    have K227 : zI s224 this 7 = zI σ0 this 7 := hT.eI t_this (by decide) rfl rfl
    have K227n : (zI s224 this 7).toInt = (zI σ0 this 7).toInt := by rw [K227]
    have K227r : rN s224 this = rN σ0 this := by unfold rN; rw [K227]
    have P228 : zI s224 rP = zI σ0 rP := funext fun k => hT.eI trP (by decide) rfl rfl
    try simp only [K227, K227r, P228] at B226
    have wv229 : zJ s224 rW 0 = zJ σ0 rW 0 := ((hTo.k trW (by decide)).eJ hEs224 (by decide) rfl).trans wv208
    have wv230 : zJ s224 rW 1 = zJ σ0 rW 1 := ((hTo.k trW (by decide)).eJ hEs224 (by decide) rfl).trans wv209
    have wv231 : zJ s224 rW 2 = zJ σ0 rW 2 := ((hTo.k trW (by decide)).eJ hEs224 (by decide) rfl).trans wv210
    obtain ⟨f232, f233⟩ := hφ
    try simp only [erW, erP, ix_0, ix_1, ix_2, ix_3, ix_4, ix_5, ix_6, ix_7, ix_8, ix_9, K206, K206r, P207, K227, K227r, P228] at f232
    refine lv_if_eq (tgt := 29) hx hb dX6_bitsBy_22 (by decide) (fun c9 => ?_) (fun c9 => ?_)
    · have c3 := gi_eq c9
      refine lv_iconst (v := 1) hx hb dX6_bitsBy_29 (by decide) ?_
      have hTo := hT
      refine pf20_0 hx hb hg hown hK hT (hT.k t_this (by decide)) rfl (hg _ k1219) dX6_bitsBy_30 (fun H locs s234 hus234 hT => ?_)
      have R235 : RI κ s234 this := R225.put hus234 (hTo.k t_this (by decide)) (by decide)
      have B236 := R235.b
      rw [erW] at B236
      have K237 : zI s234 this 7 = zI σ0 this 7 := hT.eI t_this (by decide) rfl rfl
      have K237n : (zI s234 this 7).toInt = (zI σ0 this 7).toInt := by rw [K237]
      have K237r : rN s234 this = rN σ0 this := by unfold rN; rw [K237]
      have P238 : zI s234 rP = zI σ0 rP := funext fun k => hT.eI trP (by decide) rfl rfl
      try simp only [K237, K237r, P238] at B236
      have wv239 : zJ s234 rW 0 = zJ σ0 rW 0 := (congrFun (zput_J (x := rW) hus234) 0).trans wv229
      have wv240 : zJ s234 rW 1 = zJ σ0 rW 1 := (congrFun (zput_J (x := rW) hus234) 1).trans wv230
      have wv241 : zJ s234 rW 2 = zJ σ0 rW 2 := (congrFun (zput_J (x := rW) hus234) 2).trans wv231
      have e242 : zI s234 this 0 = 1 := zput_at hus234
      refine lv_aload_n hx hb dX6_bitsBy_33 rfl (lv_at hl 0 rfl) ?_
      refine va_get (D := κ.1) (ci := 6) (v := .int (zI s234 this 0)) (C := RX6) (T := TX6) (N := 27) hx hb hg inX6 hown hK (hT.o20 (hT.k t_this (by decide))).one 0 rfl rfl 0 (by decide) (hg _ k1219) (fun _ h9 => h9) rfl dX6_bitsBy_34 ?_
      rw [e242]
      refine lv_if_le (tgt := 44) hx hb dX6_bitsBy_37 (by decide) (fun c9 => absurd c9 (by decide)) (fun _ => ?_)
      refine lv_iconst (v := 0) hx hb dX6_bitsBy_40 (by decide) ?_
      refine lv_goto (tgt := 50) hx hb dX6_bitsBy_41 (by decide) ?_
      subst hQ9
      exact t_i hx hb hr hlocks hT ⟨R235, by rw [erW]; exact (fun j hj => by rcases (show j = 0 ∨ j = 1 ∨ j = 2 by omega) with rfl | rfl | rfl <;> first | exact wv239 | exact wv240 | exact wv241), Or.inl ⟨by rw [e242]; exact n1, by omega⟩⟩ dX6_bitsBy_50
    · have c4 := gi_ne c9
      refine lv_iconst (v := 0) hx hb dX6_bitsBy_25 (by decide) ?_
      refine lv_goto (tgt := 30) hx hb dX6_bitsBy_26 (by decide) ?_
      have hTo := hT
      refine pf20_0 hx hb hg hown hK hT (hT.k t_this (by decide)) rfl (hg _ k1219) dX6_bitsBy_30 (fun H locs s243 hus243 hT => ?_)
      have R244 : RI κ s243 this := R225.put hus243 (hTo.k t_this (by decide)) (by decide)
      have B245 := R244.b
      rw [erW] at B245
      have K246 : zI s243 this 7 = zI σ0 this 7 := hT.eI t_this (by decide) rfl rfl
      have K246n : (zI s243 this 7).toInt = (zI σ0 this 7).toInt := by rw [K246]
      have K246r : rN s243 this = rN σ0 this := by unfold rN; rw [K246]
      have P247 : zI s243 rP = zI σ0 rP := funext fun k => hT.eI trP (by decide) rfl rfl
      try simp only [K246, K246r, P247] at B245
      have wv248 : zJ s243 rW 0 = zJ σ0 rW 0 := (congrFun (zput_J (x := rW) hus243) 0).trans wv229
      have wv249 : zJ s243 rW 1 = zJ σ0 rW 1 := (congrFun (zput_J (x := rW) hus243) 1).trans wv230
      have wv250 : zJ s243 rW 2 = zJ σ0 rW 2 := (congrFun (zput_J (x := rW) hus243) 2).trans wv231
      have e251 : zI s243 this 0 = 0 := zput_at hus243
      refine lv_aload_n hx hb dX6_bitsBy_33 rfl (lv_at hl 0 rfl) ?_
      refine va_get (D := κ.1) (ci := 6) (v := .int (zI s243 this 0)) (C := RX6) (T := TX6) (N := 27) hx hb hg inX6 hown hK (hT.o20 (hT.k t_this (by decide))).one 0 rfl rfl 0 (by decide) (hg _ k1219) (fun _ h9 => h9) rfl dX6_bitsBy_34 ?_
      rw [e251]
      refine lv_if_le (tgt := 44) hx hb dX6_bitsBy_37 (by decide) (fun _ => ?_) (fun c9 => absurd (by decide) c9)
      refine lv_aload_n hx hb dX6_bitsBy_44 rfl (lv_at hl 0 rfl) ?_
      refine lv_iload_n hx hb dX6_bitsBy_45 rfl (lv_at hl 1 rfl) ?_
      refine lv_iload_n hx hb dX6_bitsBy_46 rfl (lv_at hl 2 rfl) ?_
      have hTo := hT
      refine tVi (n := 2) (As := [.int x, .int z]) (rest := []) hx hb hml hown hg hT hK hX (X6v_bitsOf l κ s243 this x z  (hT.k t_this (by decide)) R244 (by omega) (by omega) (by omega) (by omega) (by rw [show rN s243 this = rN σ0 this from by unfold rN; rw [hT.eI t_this (by decide) rfl rfl], show zI s243 (kR κ this 6) = zI σ0 (kR κ this 6) from funext fun k => (show zk σ0 (kR κ this 6) 26 from hT0.ref t_this (by decide) (by decide) (by decide)).eI hT.2.2.1 (by decide) rfl]; exact h3)) sub_gYb_gZb (mwV k1674 k1676 k82 k92 k1677) ⟨rfl, by decide, by decide, by decide +kernel⟩ ⟨(Nat.le_of_ble_eq_true rfl), (Nat.le_of_ble_eq_true rfl)⟩ (hT.o20 (hT.k t_this (by decide))) rfl rfl hl.1 rfl (Nat.le_of_ble_eq_true rfl) dX6_bitsBy_47 zroom.rf (fun x252 s253 H locs hφ hEs253 hT => ?_)
      have e251 : zI s253 this 0 = 0 := ((hTo.k t_this (by decide)).eI hEs253 (by decide) rfl).trans e251
      obtain ⟨f255, f256, f257⟩ := hφ
      have B258 := f255.b
      rw [erW] at B258
      have K259 : zI s253 this 7 = zI σ0 this 7 := hT.eI t_this (by decide) rfl rfl
      have K259n : (zI s253 this 7).toInt = (zI σ0 this 7).toInt := by rw [K259]
      have K259r : rN s253 this = rN σ0 this := by unfold rN; rw [K259]
      have P260 : zI s253 rP = zI σ0 rP := funext fun k => hT.eI trP (by decide) rfl rfl
      try simp only [K259, K259r, P260] at B258
      try simp only [erW, erP, ix_0, ix_1, ix_2, ix_3, ix_4, ix_5, ix_6, ix_7, ix_8, ix_9, K246, K246r, P247, K259, K259r, P260] at f256
      try simp only [erW, erP, ix_0, ix_1, ix_2, ix_3, ix_4, ix_5, ix_6, ix_7, ix_8, ix_9, K246, K246r, P247, K259, K259r, P260] at f257
      have wv261 : zJ s253 rW 0 = zJ σ0 rW 0 := by have z9 := f256 0 (by decide); (try rw [erW] at z9); (try rw [erA] at z9); exact z9.trans wv248
      have wv262 : zJ s253 rW 1 = zJ σ0 rW 1 := by have z9 := f256 1 (by decide); (try rw [erW] at z9); (try rw [erA] at z9); exact z9.trans wv249
      have wv263 : zJ s253 rW 2 = zJ σ0 rW 2 := by have z9 := f256 2 (by decide); (try rw [erW] at z9); (try rw [erA] at z9); exact z9.trans wv250
      have hb9 : ∃ Y, Run (rN σ0 this) (plf (zI σ0 (kR κ this 5))) (zI σ0 this 8).toInt x.toInt z.toInt ((zJ σ0 (kR κ this 1)) 2).toInt (ini (rN σ0 this) (plf (zI σ0 (kR κ this 5))) (plf (zI σ0 (kR κ this 6)))) Y ∧ x252.toInt = bsum Y := by have z9 := f257; (try rw [show rN s243 this = rN σ0 this from by unfold rN; rw [hTo.eI t_this (by decide) rfl rfl]] at z9); (try rw [show zI s243 this 8 = zI σ0 this 8 from hTo.eI t_this (by decide) rfl rfl] at z9); (try rw [erP] at z9 ⊢); (try rw [erW] at z9 ⊢); (try rw [show zI s243 rP = zI σ0 rP from funext fun k => hTo.eI trP (by decide) rfl rfl] at z9); (try rw [show zI s243 (kR κ this 6) = zI σ0 (kR κ this 6) from funext fun k => (show zk σ0 (kR κ this 6) 26 from hT0.ref t_this (by decide) (by decide) (by decide)).eI hTo.2.2.1 (by decide) rfl] at z9); (try rw [wv250] at z9); exact z9
      subst hQ9
      exact t_i hx hb hr hlocks hT ⟨f255, by rw [erW]; exact (fun j hj => by rcases (show j = 0 ∨ j = 1 ∨ j = 2 by omega) with rfl | rfl | rfl <;> first | exact wv261 | exact wv262 | exact wv263), Or.inr ⟨by rw [e251]; exact n0, by omega, by omega, by omega, by omega, hb9⟩⟩ dX6_bitsBy_50

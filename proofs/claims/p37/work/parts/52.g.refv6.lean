/-! The reference with its numbers: a whole pass -/
set_option maxHeartbeats 4000000 in
set_option maxRecDepth 100000 in
theorem X6v_goesOn (l : Launch) (κ : Kt) (σ0 : Gh) (this : Nat) (mo : Int32) (t_this : zk σ0 this 20) (h0 : RI κ σ0 this) (h1 : mo.toInt = 46) (h2 : RV (rN σ0 this) (zJ σ0 (kR κ this 1)) (ini (rN σ0 this) (plf (zI σ0 (kR κ this 5))) (plf (zI σ0 (kR κ this 6))))) (h3 : ((zJ σ0 (kR κ this 1)) 1).toInt = 0 ∨ ((zJ σ0 (kR κ this 1)) 1).toInt = 1 ∨ ((zJ σ0 (kR κ this 1)) 1).toInt = 2) (h4 : ∀ k, k < (rN σ0 this) → -9999 ≤ (plf (zI σ0 (kR κ this 6))) k ∧ (plf (zI σ0 (kR κ this 6))) k ≤ 9999) : TC l yX6_goesOn cX6_goesOn 4 (some .int) 6 136 [.ref this, .int mo] κ σ0 (tqi κ gW σ0 (fun (r : Int32) (τ : Gh) => (RI κ τ this) ∧ (∃ Y, RV (rN σ0 this) (zJ τ (kR κ this 1)) Y ∧ Run (rN σ0 this) (plf (zI σ0 (kR κ this 5))) (zI σ0 this 8).toInt ((zJ σ0 (kR κ this 1)) 0).toInt ((zJ σ0 (kR κ this 1)) 1).toInt ((zJ σ0 (kR κ this 1)) 2).toInt (ini (rN σ0 this) (plf (zI σ0 (kR κ this 5))) (plf (zI σ0 (kR κ this 6)))) Y))) := by
  refine TC.of gW (by decide +kernel) (Nat.le_of_ble_eq_true rfl) ?_
  intro p e s m below meth c ls hcs hK hX hT hl
  obtain ⟨hx, hb, hr, hml, hown, hg, hlocks, hin⟩ := hcs
  have hown : s.vm.findClass RX6 = some m.cls := hown
  have hl : lv_has ls 4 [(0, .ref this), (1, .int mo)] := hl
  have hT0 := hT
  have nm1 : ((-1) : Int32).toInt = (-1) := by decide
  have n0 : (0 : Int32).toInt = 0 := by decide
  have mo_lo := Int32.le_toInt mo
  have mo_hi := Int32.toInt_lt mo
  generalize hQ9 : tQ _ _ _ _ _ _ = Q9
  obtain ⟨rW, erW⟩ : ∃ z, kR κ this 1 = z := ⟨_, rfl⟩
  have trW : zk σ0 rW 21 := by rw [← erW]; exact h0.1.2.1
  obtain ⟨rP, erP⟩ : ∃ z, kR κ this 5 = z := ⟨_, rfl⟩
  have trP : zk σ0 rP 25 := by rw [← erP]; exact h0.1.2.2.2.2
  have hB0 := h0.b
  rw [erW] at hB0
  have hW := h0.2.1
  rw [erW] at hW
  have hP := h0.2.2.1
  rw [erP] at hP
  have hrN : (rN σ0 this : Int) = (zI σ0 this 7).toInt := by unfold rN; omega
  try simp only [erW, erP] at h2
  try simp only [erW, erP] at h3
  try simp only [erW, erP] at h4
  obtain ⟨rF, erF⟩ : ∃ z, kR κ this 6 = z := ⟨_, rfl⟩
  have trF : zk σ0 rF 26 := by rw [← erF]; exact hT0.ref t_this (by decide) (by decide) (by decide)
  try rw [erF] at h2
  try rw [erF] at h4
  have hPI := hP.li
  have hN48 : 2 ≤ rN σ0 this ∧ rN σ0 this ≤ 48 := hW.1
  refine lv_iconst (v := 0) hx hb dX6_goesOn_0 (by decide) ?_
  refine lv_istore_n (lv' := [(2, .int 0), (0, .ref this), (1, .int mo)]) hx hb dX6_goesOn_1 rfl hl (by decide) rfl (fun ls hl => ?_)
  refine lv_aload_n hx hb dX6_goesOn_2 rfl (lv_at hl 1 rfl) ?_
  have hTo := hT
  refine tVi (n := 0) (As := []) (rest := []) hx hb hml hown hg hT hK hX (X6v_nextOne l κ σ0 this  (hT.k t_this (by decide)) h0 (by rw [erW]; exact RV.bv (r := 0) (P := plf (zI σ0 rP)) h2 (PIV.base hN48 hPI h4) (Nat.zero_le _)) (by rw [erW]; exact h3)) sub_fE_gW (mwV k1523 k1525 k63 k92 k1526) ⟨rfl, by decide, by decide, by decide +kernel⟩ ⟨(Nat.le_of_ble_eq_true rfl), (Nat.le_of_ble_eq_true rfl)⟩ (hT.o20 (hT.k t_this (by decide))) rfl rfl hl.1 rfl (Nat.le_of_ble_eq_true rfl) dX6_goesOn_3 zroom.rf (fun x201 s202 H locs hφ hEs202 hT => ?_)
  have R203 : RI κ s202 this := h0.ext hEs202 ⟨rfl, rfl, fun _ => rfl, fun _ => rfl, fun _ => rfl, fun _ => rfl⟩
  have B204 := R203.b
  rw [erW] at B204
  have K205 : zI s202 this 7 = zI σ0 this 7 := hT.eI t_this (by decide) rfl rfl
  have K205n : (zI s202 this 7).toInt = (zI σ0 this 7).toInt := by rw [K205]
  have K205r : rN s202 this = rN σ0 this := by unfold rN; rw [K205]
  have P206 : zI s202 rP = zI σ0 rP := funext fun k => hT.eI trP (by decide) rfl rfl
  try simp only [K205, K205r, P206] at B204
  have f207 := hφ
  try simp only [erW, erP, ix_0, ix_1, ix_2, ix_3, ix_4, ix_5, ix_6, ix_7, ix_8, ix_9, K205, K205r, P206] at f207
  have rv9 : RV (rN σ0 this) (zJ s202 rW) (ini (rN σ0 this) (plf (zI σ0 rP)) (plf (zI σ0 rF))) := by rw [show zJ s202 rW = zJ σ0 rW from funext fun k => trW.eJ hEs202 (by decide) rfl]; exact h2
  have k_a : (x201.toInt = -1 ∧ CH0 (rN σ0 this) (zI σ0 this 8).toInt (rps (zJ σ0 rW))) ∨ (∃ b : Nat, x201.toInt = b ∧ CHk (rN σ0 this) (plf (zI σ0 rP)) (zI σ0 this 8).toInt ((zJ σ0 rW) 0).toInt ((zJ σ0 rW) 1).toInt (rps (zJ σ0 rW)) b) := by have z9 := f207; (try rw [erW] at z9); (try rw [erP] at z9); (try rw [rn9] at z9); (try rw [pp9] at z9); (try rw [le9] at z9); (try rw [w0] at z9); (try rw [w1] at z9); exact z9
  refine lv_istore_n (lv' := [(3, .int x201), (2, .int 0), (0, .ref this), (1, .int mo)]) hx hb dX6_goesOn_6 rfl hl (by decide) rfl (fun ls hl => ?_)
  have loop7 : ∀ (n9 : Nat) (n1 : Int32) (k1 : Int32) (H : Heap) (locs : List Loc) (sg : Gh) (ls : Array Slot), TS κ gW σ0 sg s H locs → (RI κ sg this) → (0 ≤ n1.toInt) → (n1.toInt ≤ mo.toInt) → (∃ Y, RV (rN σ0 this) (zJ sg rW) Y ∧ Rn (rN σ0 this) (plf (zI σ0 rP)) (zI σ0 this 8).toInt ((zJ σ0 rW) 0).toInt ((zJ σ0 rW) 1).toInt ((zJ σ0 rW) 2).toInt n1.toInt.toNat (ini (rN σ0 this) (plf (zI σ0 rP)) (plf (zI σ0 rF))) Y ∧ ((k1.toInt = -1 ∧ CH0 (rN σ0 this) (zI σ0 this 8).toInt Y) ∨ (∃ b : Nat, k1.toInt = b ∧ CHk (rN σ0 this) (plf (zI σ0 rP)) (zI σ0 this 8).toInt ((zJ σ0 rW) 0).toInt ((zJ σ0 rW) 1).toInt Y b))) → lv_has ls 4 [(2, .int n1), (3, .int k1), (0, .ref this), (1, .int mo)] → (mo.toInt - n1.toInt) < n9 → tW p l e 6 136 κ s m #[.ref this, .int mo] below meth c H locs Q9 (F0 m 7 ls []) := by
    intro n9
    induction n9 with
    | zero =>
      intro n1 k1 H locs sg ls hT RI0 q1 q2 q3 hl hm9
      exfalso
      omega
    | succ n9 ih9 =>
      have ih7 := ih9
      clear ih9
      intro n1 k1 H locs s208 ls hT RI0 q1 q2 q3 hl hm9
      have B209 := RI0.b
      rw [erW] at B209
      have K210 : zI s208 this 7 = zI σ0 this 7 := hT.eI t_this (by decide) rfl rfl
      have K210n : (zI s208 this 7).toInt = (zI σ0 this 7).toInt := by rw [K210]
      have K210r : rN s208 this = rN σ0 this := by unfold rN; rw [K210]
      have P211 : zI s208 rP = zI σ0 rP := funext fun k => hT.eI trP (by decide) rfl rfl
      try simp only [K210, K210r, P211] at B209
      refine lv_iload_n hx hb dX6_goesOn_7 rfl (lv_at hl 0 rfl) ?_
      refine lv_iload_n hx hb dX6_goesOn_8 rfl (lv_at hl 3 rfl) ?_
      refine lv_icmp_ge (tgt := 33) hx hb dX6_goesOn_9 (by decide) (fun c9 => ?_) (fun c9 => ?_)
      · have c1 := gi_le c9
        refine lv_iload_n hx hb dX6_goesOn_33 rfl (lv_at hl 0 rfl) ?_
        subst hQ9
        exact t_i hx hb hr hlocks hT ⟨RI0, by rw [erW, erP, erF]; exact (q3.elim fun Y z9 => ⟨Y, z9.1, n1.toInt.toNat, by omega, z9.2.1, (Decidable.em (n1.toInt.toNat = 46)).imp id (fun z8 => z9.2.2.elim (fun z7 => z7.2) (fun z7 => by exfalso; obtain ⟨b, z6, -⟩ := z7; omega))⟩)⟩ dX6_goesOn_34
      · have c2 := gi_nle c9
        refine lv_iload_n hx hb dX6_goesOn_12 rfl (lv_at hl 1 rfl) ?_
        refine lv_iconst (v := (-1)) hx hb dX6_goesOn_13 (by decide) ?_
        refine lv_icmp_eq (tgt := 33) hx hb dX6_goesOn_14 (by decide) (fun c9 => ?_) (fun c9 => ?_)
        · have c3 := gi_eq c9
          refine lv_iload_n hx hb dX6_goesOn_33 rfl (lv_at hl 0 rfl) ?_
          subst hQ9
          exact t_i hx hb hr hlocks hT ⟨RI0, by rw [erW, erP, erF]; exact (q3.elim fun Y z9 => ⟨Y, z9.1, n1.toInt.toNat, by omega, z9.2.1, (Decidable.em (n1.toInt.toNat = 46)).imp id (fun z8 => z9.2.2.elim (fun z7 => z7.2) (fun z7 => by exfalso; obtain ⟨b, z6, -⟩ := z7; omega))⟩)⟩ dX6_goesOn_34
        · have c4 := gi_ne c9
          obtain ⟨⟨v, wt, la, dt, ma⟩, hRV, hRn, hck⟩ := q3
          obtain ⟨b9, eb9, hCH⟩ := hck.resolve_left (fun z9 => by have z8 := z9.1; omega)
          have w0 : zJ s208 rW 0 = zJ σ0 rW 0 := hT.eJ trW (by decide) (lt3_gW 0 (by decide)) rfl
          have w1 : zJ s208 rW 1 = zJ σ0 rW 1 := hT.eJ trW (by decide) (lt3_gW 1 (by decide)) rfl
          have w2 : zJ s208 rW 2 = zJ σ0 rW 2 := hT.eJ trW (by decide) (lt3_gW 2 (by decide)) rfl
          have rn9 : rN s208 this = rN σ0 this := by unfold rN; rw [hT.eI t_this (by decide) rfl rfl]
          have pp9 : zI s208 rP = zI σ0 rP := funext fun k => hT.eI trP (by decide) rfl rfl
          have le9 : zI s208 this 8 = zI σ0 this 8 := hT.eI t_this (by decide) rfl rfl
          obtain ⟨hPV, hm8⟩ := hRn.piv hN48 hPI h3 h4
          have hm9 : ma = n1.toInt.toNat := hm8
          clear hm8
          have ib9 : ix k1 = b9 := ixof (by omega)
          obtain ⟨pa, q, hLN, hRN, -⟩ := hCH.2.2.choose_spec.1
          have in1 := hCH.2.1.1
          have in2 := hCH.2.1.2.1
          have in3 : la b9 = -1 := hCH.2.1.2.2
          have k7 : (zI s208 this 7).toInt = (zI σ0 this 7).toInt := by rw [show zI s208 this 7 = zI σ0 this 7 from hT.eI t_this (by decide) rfl rfl]
          refine lv_aload_n hx hb dX6_goesOn_17 rfl (lv_at hl 2 rfl) ?_
          refine lv_iload_n hx hb dX6_goesOn_18 rfl (lv_at hl 1 rfl) ?_
          have hTo := hT
          refine tVv (n := 1) (As := [.int k1]) (rest := []) hx hb hml hown hg hT hK hX (X6v_lifts (v := v) (wt := wt) (la := la) (dt := dt) (rl := (zJ σ0 rW 1).toInt) (u := (zJ σ0 rW 2).toInt) (ma := ma) (pa := pa) (q := q) l κ s208 this k1  (hT.k t_this (by decide)) RI0 (by omega) (by rw [k7]; omega) (by rw [erW, ib9, hRV.2.2.1 b9 (by omega)]; exact in3) (by rw [erW, rn9]; exact hRV) (by rw [erP, pp9, rn9]; exact hPV) (by rw [erW, w1]) h3 (by omega) (by rw [erW]) (by rw [ib9]; exact hLN) (by rw [ib9, rn9]; exact hRN)) (fun _ _ h => h) (mwV k1592 k1594 k72 k92 k1595) ⟨rfl, by decide, by decide, by decide +kernel⟩ ⟨(Nat.le_of_ble_eq_true rfl), (Nat.le_of_ble_eq_true rfl)⟩ (hT.o20 (hT.k t_this (by decide))) rfl rfl hl.1 rfl (Nat.le_of_ble_eq_true rfl) dX6_goesOn_19 zroom.rf (fun s213 H locs hφ hEs213 hT => ?_)
          obtain ⟨f215, f216⟩ := hφ
          have B217 := f215.b
          rw [erW] at B217
          have K218 : zI s213 this 7 = zI σ0 this 7 := hT.eI t_this (by decide) rfl rfl
          have K218n : (zI s213 this 7).toInt = (zI σ0 this 7).toInt := by rw [K218]
          have K218r : rN s213 this = rN σ0 this := by unfold rN; rw [K218]
          have P219 : zI s213 rP = zI σ0 rP := funext fun k => hT.eI trP (by decide) rfl rfl
          try simp only [K218, K218r, P219] at B217
          try simp only [erW, erP, ix_0, ix_1, ix_2, ix_3, ix_4, ix_5, ix_6, ix_7, ix_8, ix_9, K210, K210r, P211, K218, K218r, P219] at f216
          have rvb : RV (rN σ0 this) (zJ s213 rW) (lft (plf (zI σ0 rP)) ((zJ σ0 rW) 1).toInt ((zJ σ0 rW) 2).toInt (v, wt, la, dt, ma) b9 pa q) := by have z9 := f216; (try rw [erW] at z9); (try rw [erP] at z9); (try rw [rn9] at z9); (try rw [pp9] at z9); (try rw [ib9] at z9); exact z9
          have rnb : Rn (rN σ0 this) (plf (zI σ0 rP)) (zI σ0 this 8).toInt ((zJ σ0 rW) 0).toInt ((zJ σ0 rW) 1).toInt ((zJ σ0 rW) 2).toInt (n1.toInt.toNat + 1) (ini (rN σ0 this) (plf (zI σ0 rP)) (plf (zI σ0 rF))) (lft (plf (zI σ0 rP)) ((zJ σ0 rW) 1).toInt ((zJ σ0 rW) 2).toInt (v, wt, la, dt, ma) b9 pa q) := ⟨_, hRn, b9, pa, q, hCH, hLN, hRN, rfl⟩
          obtain ⟨hPW, -⟩ := rnb.piv hN48 hPI h3 h4
          have w0 : zJ s213 rW 0 = zJ σ0 rW 0 := hT.eJ trW (by decide) (lt3_gW 0 (by decide)) rfl
          have w1 : zJ s213 rW 1 = zJ σ0 rW 1 := hT.eJ trW (by decide) (lt3_gW 1 (by decide)) rfl
          have w2 : zJ s213 rW 2 = zJ σ0 rW 2 := hT.eJ trW (by decide) (lt3_gW 2 (by decide)) rfl
          have rn9 : rN s213 this = rN σ0 this := by unfold rN; rw [hT.eI t_this (by decide) rfl rfl]
          have pp9 : zI s213 rP = zI σ0 rP := funext fun k => hT.eI trP (by decide) rfl rfl
          have le9 : zI s213 this 8 = zI σ0 this 8 := hT.eI t_this (by decide) rfl rfl
          obtain ⟨t220, qt220⟩ : ∃ zz9 : Int32, n1 + Int32.ofInt 1 = zz9 := ⟨_, rfl⟩
          refine lv_iinc (v := t220) (lv' := [(2, .int t220), (3, .int k1), (0, .ref this), (1, .int mo)]) hx hb dX6_goesOn_22 hl (k := 0) rfl qt220 (by decide) rfl (fun ls hl => ?_)
          have ht220 : t220.toInt = n1.toInt + 1 := by rw [← qt220]; exact v_addi rfl (show (Int32.ofInt 1).toInt = 1 from by decide) (by omega) (by omega)
          refine lv_aload_n hx hb dX6_goesOn_25 rfl (lv_at hl 2 rfl) ?_
          have hTo := hT
          refine tVi (n := 0) (As := []) (rest := []) hx hb hml hown hg hT hK hX (X6v_nextOne l κ s213 this  (hT.k t_this (by decide)) f215 (by rw [erW, rn9]; exact RV.bv rvb hPW (show ma + 1 ≤ 46 by omega)) (by rw [erW, w1]; exact h3)) sub_fE_gW (mwV k1523 k1525 k63 k92 k1526) ⟨rfl, by decide, by decide, by decide +kernel⟩ ⟨(Nat.le_of_ble_eq_true rfl), (Nat.le_of_ble_eq_true rfl)⟩ (hT.o20 (hT.k t_this (by decide))) rfl rfl hl.1 rfl (Nat.le_of_ble_eq_true rfl) dX6_goesOn_26 zroom.rf (fun x221 s222 H locs hφ hEs222 hT => ?_)
          have R223 : RI κ s222 this := f215.ext hEs222 ⟨rfl, rfl, fun _ => rfl, fun _ => rfl, fun _ => rfl, fun _ => rfl⟩
          have B224 := R223.b
          rw [erW] at B224
          have K225 : zI s222 this 7 = zI σ0 this 7 := hT.eI t_this (by decide) rfl rfl
          have K225n : (zI s222 this 7).toInt = (zI σ0 this 7).toInt := by rw [K225]
          have K225r : rN s222 this = rN σ0 this := by unfold rN; rw [K225]
          have P226 : zI s222 rP = zI σ0 rP := funext fun k => hT.eI trP (by decide) rfl rfl
          try simp only [K225, K225r, P226] at B224
          have f227 := hφ
          try simp only [erW, erP, ix_0, ix_1, ix_2, ix_3, ix_4, ix_5, ix_6, ix_7, ix_8, ix_9, K218, K218r, P219, K225, K225r, P226] at f227
          have k_b : (x221.toInt = -1 ∧ CH0 (rN σ0 this) (zI σ0 this 8).toInt (rps (zJ s213 rW))) ∨ (∃ b : Nat, x221.toInt = b ∧ CHk (rN σ0 this) (plf (zI σ0 rP)) (zI σ0 this 8).toInt ((zJ σ0 rW) 0).toInt ((zJ σ0 rW) 1).toInt (rps (zJ s213 rW)) b) := by have z9 := f227; (try rw [erW] at z9); (try rw [erP] at z9); (try rw [rn9] at z9); (try rw [pp9] at z9); (try rw [le9] at z9); (try rw [w0] at z9); (try rw [w1] at z9); exact z9
          have rvc : RV (rN σ0 this) (zJ s222 rW) (lft (plf (zI σ0 rP)) ((zJ σ0 rW) 1).toInt ((zJ σ0 rW) 2).toInt (v, wt, la, dt, ma) b9 pa q) := by rw [show zJ s222 rW = zJ s213 rW from funext fun k => (hTo.k trW (by decide)).eJ hEs222 (by decide) rfl]; exact rvb
          refine lv_istore_n (lv' := [(3, .int x221), (2, .int t220), (0, .ref this), (1, .int mo)]) hx hb dX6_goesOn_29 rfl hl (by decide) rfl (fun ls hl => ?_)
          refine lv_goto (tgt := 7) hx hb dX6_goesOn_30 (by decide) ?_
          exact ih7 t220 x221 _ _ _ _ hT  R223 (by omega) (by omega) (by rw [show t220.toInt.toNat = n1.toInt.toNat + 1 from by omega]; exact ⟨_, rvc, rnb, k_b.imp (fun z9 => ⟨z9.1, rvb.ch0 z9.2⟩) (fun z9 => z9.elim fun b z9 => ⟨b, z9.1, rvb.chk (fun _ _ => rfl) z9.2⟩)⟩) (lv_sub hl [1, 0, 2, 3] rfl) (by omega)
  exact loop7 ((mo.toInt - (0 : Int32).toInt).toNat + 1) 0 x201 _ _ _ _ hT  R203 (by omega) (by omega) ⟨_, rv9, by rw [n0]; exact rfl, k_a.imp (fun z9 => ⟨z9.1, h2.ch0 z9.2⟩) (fun z9 => z9.elim fun b z9 => ⟨b, z9.1, h2.chk (fun _ _ => rfl) z9.2⟩)⟩ (lv_sub hl [1, 0, 2, 3] rfl) (by omega)

/-! The reference: append, load, save, restore -/
set_option maxHeartbeats 4000000 in
set_option maxRecDepth 100000 in
theorem X6s_four (l : Launch) (κ : Kt) (σ0 : Gh) (this : Nat) (f : Int32) (t_this : zk σ0 this 20) (h0 : RI κ σ0 this) (h1 : 0 ≤ (zI σ0 this 13).toInt) (h2 : (zI σ0 this 13).toInt ≤ 696) : TC l yX6_four cX6_four 3 none 0 0 [.ref this, .int f] κ σ0 (tqv κ gAp σ0 (fun (τ : Gh) => (RI κ τ this) ∧ ((zI τ this 13).toInt = (zI σ0 this 13).toInt + 4) ∧ (zI τ (kR κ this 12) = byn tmb (zI σ0 (kR κ this 12)) (zI σ0 this 13).toInt.toNat f 4))) := by
  refine TC.of gAp (by decide +kernel) (Nat.le_of_ble_eq_true rfl) ?_
  intro p e s m below meth c ls hcs hK hX hT hl
  obtain ⟨hx, hb, hr, hml, hown, hg, hlocks, hin⟩ := hcs
  have hown : s.vm.findClass RX6 = some m.cls := hown
  have hl : lv_has ls 3 [(0, .ref this), (1, .int f)] := hl
  have hT0 := hT
  have n0 : (0 : Int32).toInt = 0 := by decide
  have n1 : (1 : Int32).toInt = 1 := by decide
  have n24 : (24 : Int32).toInt = 24 := by decide
  have n255 : (255 : Int32).toInt = 255 := by decide
  have f_lo := Int32.le_toInt f
  have f_hi := Int32.toInt_lt f
  generalize hQ9 : tQ _ _ _ _ _ _ = Q9
  obtain ⟨rW, erW⟩ : ∃ z, kR κ this 1 = z := ⟨_, rfl⟩
  have trW : zk σ0 rW 21 := by rw [← erW]; exact h0.1.2.1
  obtain ⟨rP, erP⟩ : ∃ z, kR κ this 5 = z := ⟨_, rfl⟩
  have trP : zk σ0 rP 25 := by rw [← erP]; exact h0.1.2.2.2.2
  have hB0 := h0.b
  rw [erW] at hB0
  have hW := h0.2.1
  rw [erW] at hW
  have hP := h0.2.2.1
  rw [erP] at hP
  have hrN : (rN σ0 this : Int) = (zI σ0 this 7).toInt := by unfold rN; omega
  obtain ⟨rT, erT⟩ : ∃ z, kR κ this 12 = z := ⟨_, rfl⟩
  have trT : zk σ0 rT 23 := by rw [← erT]; exact hT0.ref t_this (by decide) (by decide) (by decide)
  obtain ⟨L9, hL9⟩ : ∃ z : Nat, (zI σ0 this 13).toInt.toNat = z := ⟨_, rfl⟩
  have hL8 : (zI σ0 this 13).toInt = L9 := by omega
  obtain ⟨v1, ev1⟩ : ∃ zz9 : Int32, zI σ0 this 13 = zz9 := ⟨_, rfl⟩
  have qv1 : v1.toInt = (zI σ0 this 13).toInt := by rw [ev1]
  refine lv_bipush (v := 24) hx hb dX6_four_0 (by decide) ?_
  refine lv_istore_n (lv' := [(2, .int 24), (0, .ref this), (1, .int f)]) hx hb dX6_four_2 rfl hl (by decide) rfl (fun ls hl => ?_)
  have loop3 : ∀ (n9 : Nat) (sh : Int32) (u : Int32) (H : Heap) (locs : List Loc) (sg : Gh) (ls : Array Slot), TS κ gAp σ0 sg s H locs → (zI sg this 13 = u) → (RI κ sg this) → (8 * u.toInt + sh.toInt = 8 * (zI σ0 this 13).toInt + 24) → (-8 ≤ sh.toInt) → (sh.toInt ≤ 24) → (∃ n8 : Nat, (n8 : Int) = u.toInt - L9 ∧ zI sg rT = byn tmb (zI σ0 rT) L9 f n8) → lv_has ls 3 [(2, .int sh), (0, .ref this), (1, .int f)] → (sh.toInt + 8) < n9 → tW p l e 0 0 κ s m #[.ref this, .int f] below meth c H locs Q9 (F0 m 3 ls []) := by
    intro n9
    induction n9 with
    | zero =>
      intro sh u H locs sg ls hT kthis_13 RI0 q1 q2 q3 q4 hl hm9
      exfalso
      omega
    | succ n9 ih9 =>
      have ih3 := ih9
      clear ih9
      intro sh u H locs s2 ls hT kthis_13 RI0 q1 q2 q3 q4 hl hm9
      have B3 := RI0.b
      rw [erW] at B3
      have K4 : zI s2 this 7 = zI σ0 this 7 := hT.eI t_this (by decide) rfl rfl
      have K4n : (zI s2 this 7).toInt = (zI σ0 this 7).toInt := by rw [K4]
      have J5 : zJ s2 rW = zJ σ0 rW := funext fun k => hT.eJ trW (by decide) rfl rfl
      have J5n : (zJ s2 (kR κ this 1) 4).toInt = (zJ σ0 rW 4).toInt := by rw [erW, J5]
      have P6 : zI s2 rP = zI σ0 rP := funext fun k => hT.eI trP (by decide) rfl rfl
      try simp only [K4, J5, P6] at B3
      obtain ⟨n8, hn8, hb8⟩ := q4
      refine lv_iload_n hx hb dX6_four_3 rfl (lv_at hl 0 rfl) ?_
      refine lv_if_lt (tgt := 39) hx hb dX6_four_4 (by decide) (fun c9 => ?_) (fun c9 => ?_)
      · have c1 := gi_lt c9
        subst hQ9
        exact t_v hx hb hr hlocks hT ⟨RI0, by rw [(show zI s2 this 13 = u from kthis_13)]; omega, by rw [erT, hL9, hb8, show n8 = 4 from by omega]⟩ dX6_four_39
      · have c2 := gi_nlt c9
        refine lv_aload_n hx hb dX6_four_7 rfl (lv_at hl 1 rfl) ?_
        refine va_get (D := κ.1) (ci := 6) (v := .ref (kR κ this 12)) (C := RX6) (T := TX6) (N := 27) hx hb hg inX6 hown hK (hT.o20 (hT.k t_this (by decide))).one 0 rfl rfl 12 (by decide) (hg _ k1231) (fun _ h9 => h9) rfl dX6_four_8 ?_
        rw [erT]
        refine lv_aload_n hx hb dX6_four_11 rfl (lv_at hl 1 rfl) ?_
        refine va_get (D := κ.1) (ci := 6) (v := .int (zI s2 this 13)) (C := RX6) (T := TX6) (N := 27) hx hb hg inX6 hown hK (hT.o20 (hT.k t_this (by decide))).one 0 rfl rfl 13 (by decide) (hg _ k1232) (fun _ h9 => h9) rfl dX6_four_12 ?_
        rw [kthis_13]
        refine lv_iload_n hx hb dX6_four_15 rfl (lv_at hl 2 rfl) ?_
        refine lv_iload_n hx hb dX6_four_16 rfl (lv_at hl 0 rfl) ?_
        refine lv_ishr hx hb dX6_four_17 ?_
        refine lv_topi (fun t7 ht7 => ?_)
        refine lv_sipush (v := 255) hx hb dX6_four_18 (by decide) ?_
        refine lv_iand hx hb dX6_four_21 ?_
        refine lv_topi (fun t8 ht8 => ?_)
        have hv9 : t8 = tmb (bt4 f sh.toInt) := by rw [ht8, ht7, bt4_of]; rfl
        have hTo := hT
        refine tasti (n := 700) hx hb hK hT (hT.k trT (by decide)) ⟨by decide, by decide⟩ (fun _ _ _ => rfl) (fun _ _ => trivial) (fun _ => rfl) (by omega) (by omega) dX6_four_22 (fun H locs s9 hus9 hT => ?_)
        have kthis_13 : zI s9 this 13 = u := (zput_o hus9 (Or.inl ((hTo.k t_this (by decide)).ne (hTo.k trT (by decide)) (by decide)))).trans kthis_13
        have R10 : RI κ s9 this := RI0.put hus9 (hTo.k trT (by decide)) ⟨by decide, by decide, fun q => absurd q (by decide)⟩
        have B11 := R10.b
        rw [erW] at B11
        have K12 : zI s9 this 7 = zI σ0 this 7 := hT.eI t_this (by decide) rfl rfl
        have K12n : (zI s9 this 7).toInt = (zI σ0 this 7).toInt := by rw [K12]
        have J13 : zJ s9 rW = zJ σ0 rW := funext fun k => hT.eJ trW (by decide) rfl rfl
        have J13n : (zJ s9 (kR κ this 1) 4).toInt = (zJ σ0 rW 4).toInt := by rw [erW, J13]
        have P14 : zI s9 rP = zI σ0 rP := funext fun k => hT.eI trP (by decide) rfl rfl
        try simp only [K12, J13, P14] at B11
        have Y15 : zI s9 rT = byn tmb (zI σ0 rT) L9 f (n8 + 1) := byn_put (sh := sh.toInt) hb8 hus9 (show ix u = L9 + n8 from by unfold ix; omega) hv9 (by omega)
        refine lv_aload_n hx hb dX6_four_23 rfl (lv_at hl 1 rfl) ?_
        refine lv_dup hx hb dX6_four_24 rfl ?_
        refine va_get (D := κ.1) (ci := 6) (v := .int (zI s9 this 13)) (C := RX6) (T := TX6) (N := 27) hx hb hg inX6 hown hK (hT.o20 (hT.k t_this (by decide))).one 0 rfl rfl 13 (by decide) (hg _ k1232) (fun _ h9 => h9) rfl dX6_four_25 ?_
        rw [kthis_13]
        refine lv_iconst (v := 1) hx hb dX6_four_28 (by decide) ?_
        refine lv_iadd hx hb dX6_four_29 ?_
        first | refine g_add (by omega) (by omega) (fun t16 ht16 => ?_) | refine lv_topi (fun t16 ht16 => ?_)
        have hTo := hT
        refine pf20_13 hx hb hg hown hK hT (hT.k t_this (by decide)) rfl (hg _ k1232) dX6_four_30 (fun H locs s17 hus17 hT => ?_)
        have R18 : RI κ s17 this := R10.putL hus17 ⟨by omega, by omega⟩
        have B19 := R18.b
        rw [erW] at B19
        have K20 : zI s17 this 7 = zI σ0 this 7 := hT.eI t_this (by decide) rfl rfl
        have K20n : (zI s17 this 7).toInt = (zI σ0 this 7).toInt := by rw [K20]
        have J21 : zJ s17 rW = zJ σ0 rW := funext fun k => hT.eJ trW (by decide) rfl rfl
        have J21n : (zJ s17 (kR κ this 1) 4).toInt = (zJ σ0 rW 4).toInt := by rw [erW, J21]
        have P22 : zI s17 rP = zI σ0 rP := funext fun k => hT.eI trP (by decide) rfl rfl
        try simp only [K20, J21, P22] at B19
        have Y23 : zI s17 rT = byn tmb (zI σ0 rT) L9 f (n8 + 1) := by first | (rw [show zI s17 rT = zI s9 rT from zput_Io hus17 ((hTo.k trT (by decide)).ne (hTo.k t_this (by decide)) (by decide))]; exact Y15) | rw [show zI s17 rT = zI s9 rT from zput_Io hus17 ((hTo.k trT (by decide)).ne (hTo.k t_this (by decide)) (by decide))]
        have e24 : zI s17 this 13 = t16 := zput_at hus17
        obtain ⟨t25, qt25⟩ : ∃ zz9 : Int32, sh + Int32.ofInt (-8) = zz9 := ⟨_, rfl⟩
        refine lv_iinc (v := t25) (lv' := [(2, .int t25), (0, .ref this), (1, .int f)]) hx hb dX6_four_33 hl (k := 0) rfl qt25 (by decide) rfl (fun ls hl => ?_)
        have ht25 : t25.toInt = sh.toInt + (-8) := by rw [← qt25]; exact v_addi rfl (show (Int32.ofInt (-8)).toInt = (-8) from by decide) (by omega) (by omega)
        refine lv_goto (tgt := 3) hx hb dX6_four_36 (by decide) ?_
        exact ih3 t25 t16 _ _ _ _ hT e24 R18 (by omega) (by omega) (by omega) ⟨n8 + 1, by omega, Y23⟩ hl (by omega)
  exact loop3 (((24 : Int32).toInt + 8).toNat + 1) 24 v1 _ _ _ _ hT ev1 h0 (by omega) (by omega) (by omega) ⟨0, by omega, byn_0.symm⟩ hl (by omega)
set_option maxHeartbeats 4000000 in
set_option maxRecDepth 100000 in
theorem X6s_append (l : Launch) (κ : Kt) (σ0 : Gh) (this : Nat) (x1 : Int32) (x2 : Int32) (x3 : Int32) (x4 : Int32) (x5 : Int32) (t_this : zk σ0 this 20) (h0 : RI κ σ0 this) : TC l yX6_append cX6_append 6 (some .int) 1 22 [.ref this, .int x1, .int x2, .int x3, .int x4, .int x5] κ σ0 (tqi κ gAp σ0 (fun (r : Int32) (τ : Gh) => (RI κ τ this) ∧ (((zI σ0 this 13).toInt + 20 ≤ 700 ∧ r.toInt = (zI σ0 this 13).toInt + 20 ∧ (zI τ this 13).toInt = (zI σ0 this 13).toInt + 20 ∧ zI τ (kR κ this 12) = by20 tmb (zI σ0 (kR κ this 12)) (zI σ0 this 13).toInt.toNat x1 x2 x3 x4 x5) ∨ (700 < (zI σ0 this 13).toInt + 20 ∧ r.toInt = -1 ∧ (zI τ this 13).toInt = (zI σ0 this 13).toInt ∧ zI τ (kR κ this 12) = zI σ0 (kR κ this 12))))) := by
  refine TC.of gAp (by decide +kernel) (Nat.le_of_ble_eq_true rfl) ?_
  intro p e s m below meth c ls hcs hK hX hT hl
  obtain ⟨hx, hb, hr, hml, hown, hg, hlocks, hin⟩ := hcs
  have hown : s.vm.findClass RX6 = some m.cls := hown
  have hl : lv_has ls 6 [(0, .ref this), (1, .int x1), (2, .int x2), (3, .int x3), (4, .int x4), (5, .int x5)] := hl
  have hT0 := hT
  have nm1 : ((-1) : Int32).toInt = (-1) := by decide
  have n0 : (0 : Int32).toInt = 0 := by decide
  have n20 : (20 : Int32).toInt = 20 := by decide
  have n700 : (700 : Int32).toInt = 700 := by decide
  have x1_lo := Int32.le_toInt x1
  have x1_hi := Int32.toInt_lt x1
  have x2_lo := Int32.le_toInt x2
  have x2_hi := Int32.toInt_lt x2
  have x3_lo := Int32.le_toInt x3
  have x3_hi := Int32.toInt_lt x3
  have x4_lo := Int32.le_toInt x4
  have x4_hi := Int32.toInt_lt x4
  have x5_lo := Int32.le_toInt x5
  have x5_hi := Int32.toInt_lt x5
  generalize hQ9 : tQ _ _ _ _ _ _ = Q9
  obtain ⟨rW, erW⟩ : ∃ z, kR κ this 1 = z := ⟨_, rfl⟩
  have trW : zk σ0 rW 21 := by rw [← erW]; exact h0.1.2.1
  obtain ⟨rP, erP⟩ : ∃ z, kR κ this 5 = z := ⟨_, rfl⟩
  have trP : zk σ0 rP 25 := by rw [← erP]; exact h0.1.2.2.2.2
  have hB0 := h0.b
  rw [erW] at hB0
  have hW := h0.2.1
  rw [erW] at hW
  have hP := h0.2.2.1
  rw [erP] at hP
  have hrN : (rN σ0 this : Int) = (zI σ0 this 7).toInt := by unfold rN; omega
  obtain ⟨rT, erT⟩ : ∃ z, kR κ this 12 = z := ⟨_, rfl⟩
  have trT : zk σ0 rT 23 := by rw [← erT]; exact hT0.ref t_this (by decide) (by decide) (by decide)
  obtain ⟨L9, hL9⟩ : ∃ z : Nat, (zI σ0 this 13).toInt.toNat = z := ⟨_, rfl⟩
  have bRI := h0.b
  have hL8 : (zI σ0 this 13).toInt = L9 := by omega
  obtain ⟨v1, ev1⟩ : ∃ zz9 : Int32, zI σ0 this 13 = zz9 := ⟨_, rfl⟩
  have qv1 : v1.toInt = (zI σ0 this 13).toInt := by rw [ev1]
  have b0 : zI σ0 rT = zI σ0 rT := rfl
  refine lv_aload_n hx hb dX6_append_0 rfl (lv_at hl 0 rfl) ?_
  refine lv_iconst (v := 0) hx hb dX6_append_1 (by decide) ?_
  have hTo := hT
  refine pf20_0 hx hb hg hown hK hT (hT.k t_this (by decide)) rfl (hg _ k1219) dX6_append_2 (fun H locs s2 hus2 hT => ?_)
  have ev1 : zI s2 this 13 = v1 := (zput_o hus2 (Or.inr (by decide))).trans ev1
  have R3 : RI κ s2 this := h0.put hus2 (hTo.k t_this (by decide)) (by decide)
  have B4 := R3.b
  rw [erW] at B4
  have K5 : zI s2 this 7 = zI σ0 this 7 := hT.eI t_this (by decide) rfl rfl
  have K5n : (zI s2 this 7).toInt = (zI σ0 this 7).toInt := by rw [K5]
  have J6 : zJ s2 rW = zJ σ0 rW := funext fun k => hT.eJ trW (by decide) rfl rfl
  have J6n : (zJ s2 (kR κ this 1) 4).toInt = (zJ σ0 rW 4).toInt := by rw [erW, J6]
  have P7 : zI s2 rP = zI σ0 rP := funext fun k => hT.eI trP (by decide) rfl rfl
  try simp only [K5, J6, P7] at B4
  have Y8 : zI s2 rT = zI σ0 rT := by first | (rw [show zI s2 rT = zI σ0 rT from zput_Io hus2 ((hTo.k trT (by decide)).ne (hTo.k t_this (by decide)) (by decide))]; exact b0) | rw [show zI s2 rT = zI σ0 rT from zput_Io hus2 ((hTo.k trT (by decide)).ne (hTo.k t_this (by decide)) (by decide))]
  have e9 : zI s2 this 0 = 0 := zput_at hus2
  refine lv_aload_n hx hb dX6_append_5 rfl (lv_at hl 0 rfl) ?_
  refine va_get (D := κ.1) (ci := 6) (v := .int (zI s2 this 13)) (C := RX6) (T := TX6) (N := 27) hx hb hg inX6 hown hK (hT.o20 (hT.k t_this (by decide))).one 0 rfl rfl 13 (by decide) (hg _ k1232) (fun _ h9 => h9) rfl dX6_append_6 ?_
  rw [ev1]
  refine lv_bipush (v := 20) hx hb dX6_append_9 (by decide) ?_
  refine lv_iadd hx hb dX6_append_11 ?_
  first | refine g_add (by omega) (by omega) (fun t10 ht10 => ?_) | refine lv_topi (fun t10 ht10 => ?_)
  refine lv_sipush (v := 700) hx hb dX6_append_12 (by decide) ?_
  refine lv_icmp_le (tgt := 20) hx hb dX6_append_15 (by decide) (fun c9 => ?_) (fun c9 => ?_)
  · have c1 := gi_le c9
    refine lv_aload_n hx hb dX6_append_20 rfl (lv_at hl 0 rfl) ?_
    refine lv_iload_n hx hb dX6_append_21 rfl (lv_at hl 1 rfl) ?_
    have cz11 : zI s2 this 13 = v1 := ev1
    have qq12 : (zI s2 this 13).toInt = v1.toInt := by rw [ev1]
    have hTo := hT
    refine tVv (n := 1) (As := [.int x1]) (rest := []) hx hb hml hown hg hT hK hX (X6s_four l κ s2 this x1  (hT.k t_this (by decide)) R3 (by omega) (by omega)) (fun _ _ h => h) (mwV k1309 k1311 k36 k92 k1312) ⟨rfl, by decide, by decide, by decide +kernel⟩ ⟨(Nat.le_of_ble_eq_true rfl), (Nat.le_of_ble_eq_true rfl)⟩ (hT.o20 (hT.k t_this (by decide))) rfl rfl hl.1 rfl (Nat.le_of_ble_eq_true rfl) dX6_append_22 zroom.rf (fun s14 H locs hφ hEs14 hT => ?_)
    obtain ⟨f16, f17, f18⟩ := hφ
    have B19 := f16.b
    rw [erW] at B19
    have K20 : zI s14 this 7 = zI σ0 this 7 := hT.eI t_this (by decide) rfl rfl
    have K20n : (zI s14 this 7).toInt = (zI σ0 this 7).toInt := by rw [K20]
    have J21 : zJ s14 rW = zJ σ0 rW := funext fun k => hT.eJ trW (by decide) rfl rfl
    have J21n : (zJ s14 (kR κ this 1) 4).toInt = (zJ σ0 rW 4).toInt := by rw [erW, J21]
    have P22 : zI s14 rP = zI σ0 rP := funext fun k => hT.eI trP (by decide) rfl rfl
    try simp only [K20, J21, P22] at B19
    try simp only [erW, erP, ix_0, ix_1, ix_2, ix_3, ix_4, ix_5, ix_6, ix_7, ix_8, ix_9, K5, J6, P7, K20, J21, P22] at f17
    try simp only [erW, erP, ix_0, ix_1, ix_2, ix_3, ix_4, ix_5, ix_6, ix_7, ix_8, ix_9, K5, J6, P7, K20, J21, P22] at f18
    rw [erT] at f18
    obtain ⟨v23, ev23⟩ : ∃ zz9 : Int32, zI s14 this 13 = zz9 := ⟨_, rfl⟩
    have qv23 : v23.toInt = (zI s14 this 13).toInt := by rw [ev23]
    rw [(show zI s14 this 13 = v23 from ev23)] at f17
    have Y24 : zI s14 rT = (byn tmb (zI σ0 rT) L9 x1 4) := by rw [f18, Y8, cz11, show v1.toInt.toNat = L9 from by omega]
    refine lv_aload_n hx hb dX6_append_25 rfl (lv_at hl 0 rfl) ?_
    refine lv_iload_n hx hb dX6_append_26 rfl (lv_at hl 2 rfl) ?_
    have cz25 : zI s14 this 13 = v23 := ev23
    have qq26 : (zI s14 this 13).toInt = v23.toInt := by rw [ev23]
    have hTo := hT
    refine tVv (n := 1) (As := [.int x2]) (rest := []) hx hb hml hown hg hT hK hX (X6s_four l κ s14 this x2  (hT.k t_this (by decide)) f16 (by omega) (by omega)) (fun _ _ h => h) (mwV k1309 k1311 k36 k92 k1312) ⟨rfl, by decide, by decide, by decide +kernel⟩ ⟨(Nat.le_of_ble_eq_true rfl), (Nat.le_of_ble_eq_true rfl)⟩ (hT.o20 (hT.k t_this (by decide))) rfl rfl hl.1 rfl (Nat.le_of_ble_eq_true rfl) dX6_append_27 zroom.rf (fun s28 H locs hφ hEs28 hT => ?_)
    obtain ⟨f30, f31, f32⟩ := hφ
    have B33 := f30.b
    rw [erW] at B33
    have K34 : zI s28 this 7 = zI σ0 this 7 := hT.eI t_this (by decide) rfl rfl
    have K34n : (zI s28 this 7).toInt = (zI σ0 this 7).toInt := by rw [K34]
    have J35 : zJ s28 rW = zJ σ0 rW := funext fun k => hT.eJ trW (by decide) rfl rfl
    have J35n : (zJ s28 (kR κ this 1) 4).toInt = (zJ σ0 rW 4).toInt := by rw [erW, J35]
    have P36 : zI s28 rP = zI σ0 rP := funext fun k => hT.eI trP (by decide) rfl rfl
    try simp only [K34, J35, P36] at B33
    try simp only [erW, erP, ix_0, ix_1, ix_2, ix_3, ix_4, ix_5, ix_6, ix_7, ix_8, ix_9, K20, J21, P22, K34, J35, P36] at f31
    try simp only [erW, erP, ix_0, ix_1, ix_2, ix_3, ix_4, ix_5, ix_6, ix_7, ix_8, ix_9, K20, J21, P22, K34, J35, P36] at f32
    rw [erT] at f32
    obtain ⟨v37, ev37⟩ : ∃ zz9 : Int32, zI s28 this 13 = zz9 := ⟨_, rfl⟩
    have qv37 : v37.toInt = (zI s28 this 13).toInt := by rw [ev37]
    rw [(show zI s28 this 13 = v37 from ev37)] at f31
    have Y38 : zI s28 rT = (byn tmb (byn tmb (zI σ0 rT) L9 x1 4) (L9 + 4) x2 4) := by rw [f32, Y24, cz25, show v23.toInt.toNat = (L9 + 4) from by omega]
    refine lv_aload_n hx hb dX6_append_30 rfl (lv_at hl 0 rfl) ?_
    refine lv_iload_n hx hb dX6_append_31 rfl (lv_at hl 3 rfl) ?_
    have cz39 : zI s28 this 13 = v37 := ev37
    have qq40 : (zI s28 this 13).toInt = v37.toInt := by rw [ev37]
    have hTo := hT
    refine tVv (n := 1) (As := [.int x3]) (rest := []) hx hb hml hown hg hT hK hX (X6s_four l κ s28 this x3  (hT.k t_this (by decide)) f30 (by omega) (by omega)) (fun _ _ h => h) (mwV k1309 k1311 k36 k92 k1312) ⟨rfl, by decide, by decide, by decide +kernel⟩ ⟨(Nat.le_of_ble_eq_true rfl), (Nat.le_of_ble_eq_true rfl)⟩ (hT.o20 (hT.k t_this (by decide))) rfl rfl hl.1 rfl (Nat.le_of_ble_eq_true rfl) dX6_append_32 zroom.rf (fun s42 H locs hφ hEs42 hT => ?_)
    obtain ⟨f44, f45, f46⟩ := hφ
    have B47 := f44.b
    rw [erW] at B47
    have K48 : zI s42 this 7 = zI σ0 this 7 := hT.eI t_this (by decide) rfl rfl
    have K48n : (zI s42 this 7).toInt = (zI σ0 this 7).toInt := by rw [K48]
    have J49 : zJ s42 rW = zJ σ0 rW := funext fun k => hT.eJ trW (by decide) rfl rfl
    have J49n : (zJ s42 (kR κ this 1) 4).toInt = (zJ σ0 rW 4).toInt := by rw [erW, J49]
    have P50 : zI s42 rP = zI σ0 rP := funext fun k => hT.eI trP (by decide) rfl rfl
    try simp only [K48, J49, P50] at B47
    try simp only [erW, erP, ix_0, ix_1, ix_2, ix_3, ix_4, ix_5, ix_6, ix_7, ix_8, ix_9, K34, J35, P36, K48, J49, P50] at f45
    try simp only [erW, erP, ix_0, ix_1, ix_2, ix_3, ix_4, ix_5, ix_6, ix_7, ix_8, ix_9, K34, J35, P36, K48, J49, P50] at f46
    rw [erT] at f46
    obtain ⟨v51, ev51⟩ : ∃ zz9 : Int32, zI s42 this 13 = zz9 := ⟨_, rfl⟩
    have qv51 : v51.toInt = (zI s42 this 13).toInt := by rw [ev51]
    rw [(show zI s42 this 13 = v51 from ev51)] at f45
    have Y52 : zI s42 rT = (byn tmb (byn tmb (byn tmb (zI σ0 rT) L9 x1 4) (L9 + 4) x2 4) (L9 + 8) x3 4) := by rw [f46, Y38, cz39, show v37.toInt.toNat = (L9 + 8) from by omega]
    refine lv_aload_n hx hb dX6_append_35 rfl (lv_at hl 0 rfl) ?_
    refine lv_iload hx hb dX6_append_36 (lv_at hl 4 rfl) ?_
    have cz53 : zI s42 this 13 = v51 := ev51
    have qq54 : (zI s42 this 13).toInt = v51.toInt := by rw [ev51]
    have hTo := hT
    refine tVv (n := 1) (As := [.int x4]) (rest := []) hx hb hml hown hg hT hK hX (X6s_four l κ s42 this x4  (hT.k t_this (by decide)) f44 (by omega) (by omega)) (fun _ _ h => h) (mwV k1309 k1311 k36 k92 k1312) ⟨rfl, by decide, by decide, by decide +kernel⟩ ⟨(Nat.le_of_ble_eq_true rfl), (Nat.le_of_ble_eq_true rfl)⟩ (hT.o20 (hT.k t_this (by decide))) rfl rfl hl.1 rfl (Nat.le_of_ble_eq_true rfl) dX6_append_38 zroom.rf (fun s56 H locs hφ hEs56 hT => ?_)
    obtain ⟨f58, f59, f60⟩ := hφ
    have B61 := f58.b
    rw [erW] at B61
    have K62 : zI s56 this 7 = zI σ0 this 7 := hT.eI t_this (by decide) rfl rfl
    have K62n : (zI s56 this 7).toInt = (zI σ0 this 7).toInt := by rw [K62]
    have J63 : zJ s56 rW = zJ σ0 rW := funext fun k => hT.eJ trW (by decide) rfl rfl
    have J63n : (zJ s56 (kR κ this 1) 4).toInt = (zJ σ0 rW 4).toInt := by rw [erW, J63]
    have P64 : zI s56 rP = zI σ0 rP := funext fun k => hT.eI trP (by decide) rfl rfl
    try simp only [K62, J63, P64] at B61
    try simp only [erW, erP, ix_0, ix_1, ix_2, ix_3, ix_4, ix_5, ix_6, ix_7, ix_8, ix_9, K48, J49, P50, K62, J63, P64] at f59
    try simp only [erW, erP, ix_0, ix_1, ix_2, ix_3, ix_4, ix_5, ix_6, ix_7, ix_8, ix_9, K48, J49, P50, K62, J63, P64] at f60
    rw [erT] at f60
    obtain ⟨v65, ev65⟩ : ∃ zz9 : Int32, zI s56 this 13 = zz9 := ⟨_, rfl⟩
    have qv65 : v65.toInt = (zI s56 this 13).toInt := by rw [ev65]
    rw [(show zI s56 this 13 = v65 from ev65)] at f59
    have Y66 : zI s56 rT = (byn tmb (byn tmb (byn tmb (byn tmb (zI σ0 rT) L9 x1 4) (L9 + 4) x2 4) (L9 + 8) x3 4) (L9 + 12) x4 4) := by rw [f60, Y52, cz53, show v51.toInt.toNat = (L9 + 12) from by omega]
    refine lv_aload_n hx hb dX6_append_41 rfl (lv_at hl 0 rfl) ?_
    refine lv_iload hx hb dX6_append_42 (lv_at hl 5 rfl) ?_
    have cz67 : zI s56 this 13 = v65 := ev65
    have qq68 : (zI s56 this 13).toInt = v65.toInt := by rw [ev65]
    have hTo := hT
    refine tVv (n := 1) (As := [.int x5]) (rest := []) hx hb hml hown hg hT hK hX (X6s_four l κ s56 this x5  (hT.k t_this (by decide)) f58 (by omega) (by omega)) (fun _ _ h => h) (mwV k1309 k1311 k36 k92 k1312) ⟨rfl, by decide, by decide, by decide +kernel⟩ ⟨(Nat.le_of_ble_eq_true rfl), (Nat.le_of_ble_eq_true rfl)⟩ (hT.o20 (hT.k t_this (by decide))) rfl rfl hl.1 rfl (Nat.le_of_ble_eq_true rfl) dX6_append_44 zroom.rf (fun s70 H locs hφ hEs70 hT => ?_)
    obtain ⟨f72, f73, f74⟩ := hφ
    have B75 := f72.b
    rw [erW] at B75
    have K76 : zI s70 this 7 = zI σ0 this 7 := hT.eI t_this (by decide) rfl rfl
    have K76n : (zI s70 this 7).toInt = (zI σ0 this 7).toInt := by rw [K76]
    have J77 : zJ s70 rW = zJ σ0 rW := funext fun k => hT.eJ trW (by decide) rfl rfl
    have J77n : (zJ s70 (kR κ this 1) 4).toInt = (zJ σ0 rW 4).toInt := by rw [erW, J77]
    have P78 : zI s70 rP = zI σ0 rP := funext fun k => hT.eI trP (by decide) rfl rfl
    try simp only [K76, J77, P78] at B75
    try simp only [erW, erP, ix_0, ix_1, ix_2, ix_3, ix_4, ix_5, ix_6, ix_7, ix_8, ix_9, K62, J63, P64, K76, J77, P78] at f73
    try simp only [erW, erP, ix_0, ix_1, ix_2, ix_3, ix_4, ix_5, ix_6, ix_7, ix_8, ix_9, K62, J63, P64, K76, J77, P78] at f74
    rw [erT] at f74
    obtain ⟨v79, ev79⟩ : ∃ zz9 : Int32, zI s70 this 13 = zz9 := ⟨_, rfl⟩
    have qv79 : v79.toInt = (zI s70 this 13).toInt := by rw [ev79]
    rw [(show zI s70 this 13 = v79 from ev79)] at f73
    have Y80 : zI s70 rT = (byn tmb (byn tmb (byn tmb (byn tmb (byn tmb (zI σ0 rT) L9 x1 4) (L9 + 4) x2 4) (L9 + 8) x3 4) (L9 + 12) x4 4) (L9 + 16) x5 4) := by rw [f74, Y66, cz67, show v65.toInt.toNat = (L9 + 16) from by omega]
    refine lv_aload_n hx hb dX6_append_47 rfl (lv_at hl 0 rfl) ?_
    refine va_get (D := κ.1) (ci := 6) (v := .int (zI s70 this 13)) (C := RX6) (T := TX6) (N := 27) hx hb hg inX6 hown hK (hT.o20 (hT.k t_this (by decide))).one 0 rfl rfl 13 (by decide) (hg _ k1232) (fun _ h9 => h9) rfl dX6_append_48 ?_
    rw [ev79]
    subst hQ9
    exact t_i hx hb hr hlocks hT ⟨f72, Or.inl ⟨by omega, by omega, by rw [(show zI s70 this 13 = v79 from ev79)]; omega, by rw [erT, hL9, Y80]; rfl⟩⟩ dX6_append_51
  · have c2 := gi_nle c9
    refine lv_iconst (v := (-1)) hx hb dX6_append_18 (by decide) ?_
    subst hQ9
    exact t_i hx hb hr hlocks hT ⟨R3, Or.inr ⟨by omega, by omega, by rw [(show zI s2 this 13 = v1 from ev1)]; omega, by rw [erT]; exact Y8⟩⟩ dX6_append_19
set_option maxHeartbeats 4000000 in
set_option maxRecDepth 100000 in
theorem X6s_errorCode (l : Launch) (κ : Kt) (σ0 : Gh) (this : Nat) (t_this : zk σ0 this 20) (h0 : RI κ σ0 this) : TC l yX6_errorCode cX6_errorCode 1 (some .int) 0 0 [.ref this] κ σ0 (tqi κ gR σ0 (fun (r : Int32) (τ : Gh) => (r = zI σ0 this 15))) := by
  refine TC.of gR (by decide +kernel) (Nat.le_of_ble_eq_true rfl) ?_
  intro p e s m below meth c ls hcs hK hX hT hl
  obtain ⟨hx, hb, hr, hml, hown, hg, hlocks, hin⟩ := hcs
  have hown : s.vm.findClass RX6 = some m.cls := hown
  have hl : lv_has ls 1 [(0, .ref this)] := hl
  have hT0 := hT
  have n0 : (0 : Int32).toInt = 0 := by decide
  generalize hQ9 : tQ _ _ _ _ _ _ = Q9
  obtain ⟨rW, erW⟩ : ∃ z, kR κ this 1 = z := ⟨_, rfl⟩
  have trW : zk σ0 rW 21 := by rw [← erW]; exact h0.1.2.1
  obtain ⟨rP, erP⟩ : ∃ z, kR κ this 5 = z := ⟨_, rfl⟩
  have trP : zk σ0 rP 25 := by rw [← erP]; exact h0.1.2.2.2.2
  have hB0 := h0.b
  rw [erW] at hB0
  have hW := h0.2.1
  rw [erW] at hW
  have hP := h0.2.2.1
  rw [erP] at hP
  have hrN : (rN σ0 this : Int) = (zI σ0 this 7).toInt := by unfold rN; omega
  refine lv_aload_n hx hb dX6_errorCode_0 rfl (lv_at hl 0 rfl) ?_
  refine lv_iconst (v := 0) hx hb dX6_errorCode_1 (by decide) ?_
  have hTo := hT
  refine pf20_0 hx hb hg hown hK hT (hT.k t_this (by decide)) rfl (hg _ k1219) dX6_errorCode_2 (fun H locs s1 hus1 hT => ?_)
  have e2 : zI s1 this 0 = 0 := zput_at hus1
  refine lv_aload_n hx hb dX6_errorCode_5 rfl (lv_at hl 0 rfl) ?_
  obtain ⟨v3, ev3⟩ : ∃ zz9 : Int32, zI σ0 this 15 = zz9 := ⟨_, rfl⟩
  have qv3 : v3.toInt = (zI σ0 this 15).toInt := by rw [ev3]
  refine va_get (D := κ.1) (ci := 6) (v := .int (zI s1 this 15)) (C := RX6) (T := TX6) (N := 27) hx hb hg inX6 hown hK (hT.o20 (hT.k t_this (by decide))).one 0 rfl rfl 15 (by decide) (hg _ k1234) (fun _ h9 => h9) rfl dX6_errorCode_6 ?_
  rw [(hT.eI t_this (by decide) rfl ev3)]
  subst hQ9
  exact t_i hx hb hr hlocks hT ev3.symm dX6_errorCode_9
set_option maxHeartbeats 4000000 in
set_option maxRecDepth 100000 in
theorem X6s_errorPosition (l : Launch) (κ : Kt) (σ0 : Gh) (this : Nat) (t_this : zk σ0 this 20) (h0 : RI κ σ0 this) : TC l yX6_errorPosition cX6_errorPosition 1 (some .int) 0 0 [.ref this] κ σ0 (tqi κ gR σ0 (fun (r : Int32) (τ : Gh) => (r = zI σ0 this 16))) := by
  refine TC.of gR (by decide +kernel) (Nat.le_of_ble_eq_true rfl) ?_
  intro p e s m below meth c ls hcs hK hX hT hl
  obtain ⟨hx, hb, hr, hml, hown, hg, hlocks, hin⟩ := hcs
  have hown : s.vm.findClass RX6 = some m.cls := hown
  have hl : lv_has ls 1 [(0, .ref this)] := hl
  have hT0 := hT
  have n0 : (0 : Int32).toInt = 0 := by decide
  generalize hQ9 : tQ _ _ _ _ _ _ = Q9
  obtain ⟨rW, erW⟩ : ∃ z, kR κ this 1 = z := ⟨_, rfl⟩
  have trW : zk σ0 rW 21 := by rw [← erW]; exact h0.1.2.1
  obtain ⟨rP, erP⟩ : ∃ z, kR κ this 5 = z := ⟨_, rfl⟩
  have trP : zk σ0 rP 25 := by rw [← erP]; exact h0.1.2.2.2.2
  have hB0 := h0.b
  rw [erW] at hB0
  have hW := h0.2.1
  rw [erW] at hW
  have hP := h0.2.2.1
  rw [erP] at hP
  have hrN : (rN σ0 this : Int) = (zI σ0 this 7).toInt := by unfold rN; omega
  refine lv_aload_n hx hb dX6_errorPosition_0 rfl (lv_at hl 0 rfl) ?_
  refine lv_iconst (v := 0) hx hb dX6_errorPosition_1 (by decide) ?_
  have hTo := hT
  refine pf20_0 hx hb hg hown hK hT (hT.k t_this (by decide)) rfl (hg _ k1219) dX6_errorPosition_2 (fun H locs s1 hus1 hT => ?_)
  have e2 : zI s1 this 0 = 0 := zput_at hus1
  refine lv_aload_n hx hb dX6_errorPosition_5 rfl (lv_at hl 0 rfl) ?_
  obtain ⟨v3, ev3⟩ : ∃ zz9 : Int32, zI σ0 this 16 = zz9 := ⟨_, rfl⟩
  have qv3 : v3.toInt = (zI σ0 this 16).toInt := by rw [ev3]
  refine va_get (D := κ.1) (ci := 6) (v := .int (zI s1 this 16)) (C := RX6) (T := TX6) (N := 27) hx hb hg inX6 hown hK (hT.o20 (hT.k t_this (by decide))).one 0 rfl rfl 16 (by decide) (hg _ k1235) (fun _ h9 => h9) rfl dX6_errorPosition_6 ?_
  rw [(hT.eI t_this (by decide) rfl ev3)]
  subst hQ9
  exact t_i hx hb hr hlocks hT ev3.symm dX6_errorPosition_9
set_option maxHeartbeats 4000000 in
set_option maxRecDepth 100000 in
theorem X6s_fails (l : Launch) (κ : Kt) (σ0 : Gh) (this : Nat) (i : Int32) (t_this : zk σ0 this 20) (h0 : RI κ σ0 this) : TC l yX6_fails cX6_fails 2 (some .int) 0 0 [.ref this, .int i] κ σ0 (tqi κ gR σ0 (fun (r : Int32) (τ : Gh) => (r.toInt = 0) ∧ ((zI τ this 0).toInt = i.toInt))) := by
  refine TC.of gR (by decide +kernel) (Nat.le_of_ble_eq_true rfl) ?_
  intro p e s m below meth c ls hcs hK hX hT hl
  obtain ⟨hx, hb, hr, hml, hown, hg, hlocks, hin⟩ := hcs
  have hown : s.vm.findClass RX6 = some m.cls := hown
  have hl : lv_has ls 2 [(0, .ref this), (1, .int i)] := hl
  have hT0 := hT
  have n0 : (0 : Int32).toInt = 0 := by decide
  have i_lo := Int32.le_toInt i
  have i_hi := Int32.toInt_lt i
  generalize hQ9 : tQ _ _ _ _ _ _ = Q9
  obtain ⟨rW, erW⟩ : ∃ z, kR κ this 1 = z := ⟨_, rfl⟩
  have trW : zk σ0 rW 21 := by rw [← erW]; exact h0.1.2.1
  obtain ⟨rP, erP⟩ : ∃ z, kR κ this 5 = z := ⟨_, rfl⟩
  have trP : zk σ0 rP 25 := by rw [← erP]; exact h0.1.2.2.2.2
  have hB0 := h0.b
  rw [erW] at hB0
  have hW := h0.2.1
  rw [erW] at hW
  have hP := h0.2.2.1
  rw [erP] at hP
  have hrN : (rN σ0 this : Int) = (zI σ0 this 7).toInt := by unfold rN; omega
  refine lv_aload_n hx hb dX6_fails_0 rfl (lv_at hl 0 rfl) ?_
  refine lv_iload_n hx hb dX6_fails_1 rfl (lv_at hl 1 rfl) ?_
  have hTo := hT
  refine pf20_0 hx hb hg hown hK hT (hT.k t_this (by decide)) rfl (hg _ k1219) dX6_fails_2 (fun H locs s1 hus1 hT => ?_)
  have e2 : zI s1 this 0 = i := zput_at hus1
  refine lv_iconst (v := 0) hx hb dX6_fails_5 (by decide) ?_
  subst hQ9
  exact t_i hx hb hr hlocks hT ⟨n0, by rw [(show zI s1 this 0 = i from e2)]⟩ dX6_fails_6
set_option maxHeartbeats 4000000 in
set_option maxRecDepth 100000 in
theorem X6s_takesText (l : Launch) (κ : Kt) (σ0 : Gh) (this : Nat) (t_this : zk σ0 this 20) (h0 : 0 ≤ (zI σ0 this 13).toInt) (h1 : (zI σ0 this 13).toInt ≤ 700) (h2 : 2 ≤ (zI σ0 this 18).toInt) (h3 : (zI σ0 this 18).toInt ≤ 48) (h4 : PL (zI σ0 this 18).toInt.toNat (zI σ0 (kR κ this 25))) : TC l yX6_takesText cX6_takesText 2 none 1 23 [.ref this] κ σ0 (tqv κ gTT σ0 (fun (τ : Gh) => (RI κ τ this) ∧ (zI τ (kR κ this 4) 0 = 0) ∧ (zI τ (kR κ this 4) 1 = 0) ∧ (zI τ this 7 = zI σ0 this 18) ∧ ((zJ τ (kR κ this 1) 0).toInt = (zI σ0 this 20).toInt) ∧ ((zJ τ (kR κ this 1) 1).toInt = (zI σ0 this 21).toInt) ∧ ((zJ τ (kR κ this 1) 2).toInt = (zI σ0 this 22).toInt) ∧ (zI τ this 8 = zI σ0 this 19) ∧ (∀ j : Nat, j < (zI σ0 this 18).toInt.toNat → zI τ (kR κ this 5) j = zI σ0 (kR κ this 25) j) ∧ (∀ j : Nat, j < (zI σ0 this 18).toInt.toNat → zI τ (kR κ this 6) j = zI σ0 (kR κ this 26) j))) := by
  refine TC.of gTT (by decide +kernel) (Nat.le_of_ble_eq_true rfl) ?_
  intro p e s m below meth c ls hcs hK hX hT hl
  obtain ⟨hx, hb, hr, hml, hown, hg, hlocks, hin⟩ := hcs
  have hown : s.vm.findClass RX6 = some m.cls := hown
  have hl : lv_has ls 2 [(0, .ref this)] := hl
  have hT0 := hT
  have n0 : (0 : Int32).toInt = 0 := by decide
  have n1 : (1 : Int32).toInt = 1 := by decide
  have n2 : (2 : Int32).toInt = 2 := by decide
  generalize hQ9 : tQ _ _ _ _ _ _ = Q9
  obtain ⟨rW, erW⟩ : ∃ z, kR κ this 1 = z := ⟨_, rfl⟩
  have trW : zk σ0 rW 21 := by rw [← erW]; exact hT0.ref t_this (by decide) (by decide) (by decide)
  obtain ⟨rP, erP⟩ : ∃ z, kR κ this 5 = z := ⟨_, rfl⟩
  have trP : zk σ0 rP 25 := by rw [← erP]; exact hT0.ref t_this (by decide) (by decide) (by decide)
  obtain ⟨rQ, erQ⟩ : ∃ z, kR κ this 25 = z := ⟨_, rfl⟩
  have trQ : zk σ0 rQ 27 := by rw [← erQ]; exact hT0.ref t_this (by decide) (by decide) (by decide)
  obtain ⟨rV9, erV9⟩ : ∃ z, kR κ this 26 = z := ⟨_, rfl⟩
  have trV9 : zk σ0 rV9 28 := by rw [← erV9]; exact hT0.ref t_this (by decide) (by decide) (by decide)
  obtain ⟨rF9, erF9⟩ : ∃ z, kR κ this 6 = z := ⟨_, rfl⟩
  have trF9 : zk σ0 rF9 26 := by rw [← erF9]; exact hT0.ref t_this (by decide) (by decide) (by decide)
  rw [erQ] at h4
  obtain ⟨v1, ev1⟩ : ∃ zz9 : Int32, zI σ0 this 18 = zz9 := ⟨_, rfl⟩
  have qv1 : v1.toInt = (zI σ0 this 18).toInt := by rw [ev1]
  have wv0_0 : zJ σ0 rW 0 = zJ σ0 rW 0 := rfl
  have wv1_0 : zJ σ0 rW 1 = zJ σ0 rW 1 := rfl
  have wv2_0 : zJ σ0 rW 2 = zJ σ0 rW 2 := rfl
  refine lv_aload_n hx hb dX6_takesText_0 rfl (lv_at hl 0 rfl) ?_
  refine lv_aload_n hx hb dX6_takesText_1 rfl (lv_at hl 0 rfl) ?_
  refine va_get (D := κ.1) (ci := 6) (v := .int (zI σ0 this 18)) (C := RX6) (T := TX6) (N := 27) hx hb hg inX6 hown hK (hT.o20 (hT.k t_this (by decide))).one 0 rfl rfl 18 (by decide) (hg _ k1237) (fun _ h9 => h9) rfl dX6_takesText_2 ?_
  rw [(hT.eI t_this (by decide) rfl ev1)]
  have hTo := hT
  refine pf20_7 hx hb hg hown hK hT (hT.k t_this (by decide)) rfl (hg _ k1226) dX6_takesText_5 (fun H locs s2 hus2 hT => ?_)
  have wv3 : zJ s2 rW 0 = zJ σ0 rW 0 := (congrFun (zput_J (x := rW) hus2) 0).trans wv0_0
  have wv4 : zJ s2 rW 1 = zJ σ0 rW 1 := (congrFun (zput_J (x := rW) hus2) 1).trans wv1_0
  have wv5 : zJ s2 rW 2 = zJ σ0 rW 2 := (congrFun (zput_J (x := rW) hus2) 2).trans wv2_0
  have e6 : zI s2 this 7 = v1 := zput_at hus2
  refine lv_aload_n hx hb dX6_takesText_8 rfl (lv_at hl 0 rfl) ?_
  refine lv_aload_n hx hb dX6_takesText_9 rfl (lv_at hl 0 rfl) ?_
  obtain ⟨v7, ev7⟩ : ∃ zz9 : Int32, zI σ0 this 19 = zz9 := ⟨_, rfl⟩
  have qv7 : v7.toInt = (zI σ0 this 19).toInt := by rw [ev7]
  refine va_get (D := κ.1) (ci := 6) (v := .int (zI s2 this 19)) (C := RX6) (T := TX6) (N := 27) hx hb hg inX6 hown hK (hT.o20 (hT.k t_this (by decide))).one 0 rfl rfl 19 (by decide) (hg _ k1238) (fun _ h9 => h9) rfl dX6_takesText_10 ?_
  rw [(hT.eI t_this (by decide) rfl ev7)]
  have hTo := hT
  refine pf20_8 hx hb hg hown hK hT (hT.k t_this (by decide)) rfl (hg _ k1227) dX6_takesText_13 (fun H locs s8 hus8 hT => ?_)
  have e6 : zI s8 this 7 = v1 := (zput_o hus8 (Or.inr (by decide))).trans e6
  have wv9 : zJ s8 rW 0 = zJ σ0 rW 0 := (congrFun (zput_J (x := rW) hus8) 0).trans wv3
  have wv10 : zJ s8 rW 1 = zJ σ0 rW 1 := (congrFun (zput_J (x := rW) hus8) 1).trans wv4
  have wv11 : zJ s8 rW 2 = zJ σ0 rW 2 := (congrFun (zput_J (x := rW) hus8) 2).trans wv5
  have e12 : zI s8 this 8 = v7 := zput_at hus8
  refine lv_iconst (v := 0) hx hb dX6_takesText_16 (by decide) ?_
  refine lv_istore_n (lv' := [(1, .int 0), (0, .ref this)]) hx hb dX6_takesText_17 rfl hl (by decide) rfl (fun ls hl => ?_)
  have loop18 : ∀ (n9 : Nat) (k : Int32) (H : Heap) (locs : List Loc) (sg : Gh) (ls : Array Slot), TS κ gTT σ0 sg s H locs → (zI sg this 7 = v1) → (zI sg this 8 = v7) → (0 ≤ k.toInt) → (k.toInt ≤ (v1 : Int32).toInt) → (∀ j : Nat, j < ix k → zI sg rP j = zI σ0 rQ j) → (∀ j : Nat, j < ix k → zI sg rF9 j = zI σ0 rV9 j) → lv_has ls 2 [(1, .int k), (0, .ref this)] → (48 - k.toInt) < n9 → tW p l e 1 23 κ s m #[.ref this] below meth c H locs Q9 (F0 m 18 ls []) := by
    intro n9
    induction n9 with
    | zero =>
      intro k H locs sg ls hT kthis_7 kthis_8 q1 q2 q3 q4 hl hm9
      exfalso
      omega
    | succ n9 ih9 =>
      have ih18 := ih9
      clear ih9
      intro k H locs s13 ls hT kthis_7 kthis_8 q1 q2 q3 q4 hl hm9
      refine lv_iload_n hx hb dX6_takesText_18 rfl (lv_at hl 0 rfl) ?_
      refine lv_aload_n hx hb dX6_takesText_19 rfl (lv_at hl 1 rfl) ?_
      refine va_get (D := κ.1) (ci := 6) (v := .int (zI s13 this 7)) (C := RX6) (T := TX6) (N := 27) hx hb hg inX6 hown hK (hT.o20 (hT.k t_this (by decide))).one 0 rfl rfl 7 (by decide) (hg _ k1226) (fun _ h9 => h9) rfl dX6_takesText_20 ?_
      rw [kthis_7]
      refine lv_icmp_ge (tgt := 56) hx hb dX6_takesText_23 (by decide) (fun c9 => ?_) (fun c9 => ?_)
      · have c1 := gi_le c9
        refine lv_aload_n hx hb dX6_takesText_56 rfl (lv_at hl 1 rfl) ?_
        refine va_get (D := κ.1) (ci := 6) (v := .ref (kR κ this 1)) (C := RX6) (T := TX6) (N := 27) hx hb hg inX6 hown hK (hT.o20 (hT.k t_this (by decide))).one 0 rfl rfl 1 (by decide) (hg _ k1220) (fun _ h9 => h9) rfl dX6_takesText_57 ?_
        rw [erW]
        refine lv_iconst (v := 0) hx hb dX6_takesText_60 (by decide) ?_
        refine lv_aload_n hx hb dX6_takesText_61 rfl (lv_at hl 1 rfl) ?_
        obtain ⟨v14, ev14⟩ : ∃ zz9 : Int32, zI σ0 this 20 = zz9 := ⟨_, rfl⟩
        have qv14 : v14.toInt = (zI σ0 this 20).toInt := by rw [ev14]
        refine va_get (D := κ.1) (ci := 6) (v := .int (zI s13 this 20)) (C := RX6) (T := TX6) (N := 27) hx hb hg inX6 hown hK (hT.o20 (hT.k t_this (by decide))).one 0 rfl rfl 20 (by decide) (hg _ k1239) (fun _ h9 => h9) rfl dX6_takesText_62 ?_
        rw [(hT.eI t_this (by decide) rfl ev14)]
        refine lv_i2l hx hb dX6_takesText_65 rfl ?_
        refine g_i2l (fun t15 ht15 => ?_)
        have hTo := hT
        refine tastl (n := 609) hx hb hK hT (hT.k trW (by decide)) ⟨by decide, by decide⟩ (fun _ _ _ => rfl) (fun _ _ => trivial) (fun _ => rfl) (by omega) (by omega) dX6_takesText_66 (fun H locs s16 hus16 hT => ?_)
        have kthis_7 : zI s16 this 7 = v1 := by rw [zpul_I hus16]; exact kthis_7
        have kthis_8 : zI s16 this 8 = v7 := by rw [zpul_I hus16]; exact kthis_8
        have wv17 : zJ s16 rW 0 = t15 := by rw [zpul_Ja hus16]; exact if_pos (by decide)
        have Y18 : ∀ j : Nat, j < ix k → zI s16 rP j = zI σ0 rQ j := by first | (rw [show zI s16 rP = zI s13 rP from (zpul_I hus16)]; exact q3) | rw [show zI s16 rP = zI s13 rP from (zpul_I hus16)]
        have Y19 : ∀ j : Nat, j < ix k → zI s16 rF9 j = zI σ0 rV9 j := by first | (rw [show zI s16 rF9 = zI s13 rF9 from (zpul_I hus16)]; exact q4) | rw [show zI s16 rF9 = zI s13 rF9 from (zpul_I hus16)]
        refine lv_aload_n hx hb dX6_takesText_67 rfl (lv_at hl 1 rfl) ?_
        refine va_get (D := κ.1) (ci := 6) (v := .ref (kR κ this 1)) (C := RX6) (T := TX6) (N := 27) hx hb hg inX6 hown hK (hT.o20 (hT.k t_this (by decide))).one 0 rfl rfl 1 (by decide) (hg _ k1220) (fun _ h9 => h9) rfl dX6_takesText_68 ?_
        rw [erW]
        refine lv_iconst (v := 1) hx hb dX6_takesText_71 (by decide) ?_
        refine lv_aload_n hx hb dX6_takesText_72 rfl (lv_at hl 1 rfl) ?_
        obtain ⟨v20, ev20⟩ : ∃ zz9 : Int32, zI σ0 this 21 = zz9 := ⟨_, rfl⟩
        have qv20 : v20.toInt = (zI σ0 this 21).toInt := by rw [ev20]
        refine va_get (D := κ.1) (ci := 6) (v := .int (zI s16 this 21)) (C := RX6) (T := TX6) (N := 27) hx hb hg inX6 hown hK (hT.o20 (hT.k t_this (by decide))).one 0 rfl rfl 21 (by decide) (hg _ k1240) (fun _ h9 => h9) rfl dX6_takesText_73 ?_
        rw [(hT.eI t_this (by decide) rfl ev20)]
        refine lv_i2l hx hb dX6_takesText_76 rfl ?_
        refine g_i2l (fun t21 ht21 => ?_)
        have hTo := hT
        refine tastl (n := 609) hx hb hK hT (hT.k trW (by decide)) ⟨by decide, by decide⟩ (fun _ _ _ => rfl) (fun _ _ => trivial) (fun _ => rfl) (by omega) (by omega) dX6_takesText_77 (fun H locs s22 hus22 hT => ?_)
        have kthis_7 : zI s22 this 7 = v1 := by rw [zpul_I hus22]; exact kthis_7
        have kthis_8 : zI s22 this 8 = v7 := by rw [zpul_I hus22]; exact kthis_8
        have wv23 : zJ s22 rW 0 = t15 := (show zJ s22 rW 0 = zJ s16 rW 0 from by rw [zpul_Ja hus22]; exact if_neg (show 0 ≠ ix 1 from by decide)).trans wv17
        have wv24 : zJ s22 rW 1 = t21 := by rw [zpul_Ja hus22]; exact if_pos (by decide)
        have Y25 : ∀ j : Nat, j < ix k → zI s22 rP j = zI σ0 rQ j := by first | (rw [show zI s22 rP = zI s16 rP from (zpul_I hus22)]; exact Y18) | rw [show zI s22 rP = zI s16 rP from (zpul_I hus22)]
        have Y26 : ∀ j : Nat, j < ix k → zI s22 rF9 j = zI σ0 rV9 j := by first | (rw [show zI s22 rF9 = zI s16 rF9 from (zpul_I hus22)]; exact Y19) | rw [show zI s22 rF9 = zI s16 rF9 from (zpul_I hus22)]
        refine lv_aload_n hx hb dX6_takesText_78 rfl (lv_at hl 1 rfl) ?_
        refine va_get (D := κ.1) (ci := 6) (v := .ref (kR κ this 1)) (C := RX6) (T := TX6) (N := 27) hx hb hg inX6 hown hK (hT.o20 (hT.k t_this (by decide))).one 0 rfl rfl 1 (by decide) (hg _ k1220) (fun _ h9 => h9) rfl dX6_takesText_79 ?_
        rw [erW]
        refine lv_iconst (v := 2) hx hb dX6_takesText_82 (by decide) ?_
        refine lv_aload_n hx hb dX6_takesText_83 rfl (lv_at hl 1 rfl) ?_
        obtain ⟨v27, ev27⟩ : ∃ zz9 : Int32, zI σ0 this 22 = zz9 := ⟨_, rfl⟩
        have qv27 : v27.toInt = (zI σ0 this 22).toInt := by rw [ev27]
        refine va_get (D := κ.1) (ci := 6) (v := .int (zI s22 this 22)) (C := RX6) (T := TX6) (N := 27) hx hb hg inX6 hown hK (hT.o20 (hT.k t_this (by decide))).one 0 rfl rfl 22 (by decide) (hg _ k1241) (fun _ h9 => h9) rfl dX6_takesText_84 ?_
        rw [(hT.eI t_this (by decide) rfl ev27)]
        refine lv_i2l hx hb dX6_takesText_87 rfl ?_
        refine g_i2l (fun t28 ht28 => ?_)
        have hTo := hT
        refine tastl (n := 609) hx hb hK hT (hT.k trW (by decide)) ⟨by decide, by decide⟩ (fun _ _ _ => rfl) (fun _ _ => trivial) (fun _ => rfl) (by omega) (by omega) dX6_takesText_88 (fun H locs s29 hus29 hT => ?_)
        have kthis_7 : zI s29 this 7 = v1 := by rw [zpul_I hus29]; exact kthis_7
        have kthis_8 : zI s29 this 8 = v7 := by rw [zpul_I hus29]; exact kthis_8
        have wv30 : zJ s29 rW 0 = t15 := (show zJ s29 rW 0 = zJ s22 rW 0 from by rw [zpul_Ja hus29]; exact if_neg (show 0 ≠ ix 2 from by decide)).trans wv23
        have wv31 : zJ s29 rW 1 = t21 := (show zJ s29 rW 1 = zJ s22 rW 1 from by rw [zpul_Ja hus29]; exact if_neg (show 1 ≠ ix 2 from by decide)).trans wv24
        have wv32 : zJ s29 rW 2 = t28 := by rw [zpul_Ja hus29]; exact if_pos (by decide)
        have Y33 : ∀ j : Nat, j < ix k → zI s29 rP j = zI σ0 rQ j := by first | (rw [show zI s29 rP = zI s22 rP from (zpul_I hus29)]; exact Y25) | rw [show zI s29 rP = zI s22 rP from (zpul_I hus29)]
        have Y34 : ∀ j : Nat, j < ix k → zI s29 rF9 j = zI σ0 rV9 j := by first | (rw [show zI s29 rF9 = zI s22 rF9 from (zpul_I hus29)]; exact Y26) | rw [show zI s29 rF9 = zI s22 rF9 from (zpul_I hus29)]
        refine lv_aload_n hx hb dX6_takesText_89 rfl (lv_at hl 1 rfl) ?_
        have e7a : zI s29 this 7 = v1 := kthis_7
        have hTo := hT
        refine tVv (n := 0) (As := []) (rest := []) hx hb hml hown hg hT hK hX (X6_anew l κ s29 this  (hT.k t_this (by decide)) (by rw [erP, show rN s29 this = (zI σ0 this 18).toInt.toNat from by unfold rN; rw [(show zI s29 this 7 = v1 from kthis_7), ev1]]; exact h4.congr (fun j hj => Y33 j (by rw [ev1] at hj; unfold ix; omega))) (by rw [(show zI s29 this 7 = v1 from kthis_7)]; omega) (by rw [(show zI s29 this 7 = v1 from kthis_7)]; omega)) sub_gW_gTT (mwV k1214 k1216 k35 k92 k1217) ⟨rfl, by decide, by decide, by decide +kernel⟩ ⟨(Nat.le_of_ble_eq_true rfl), (Nat.le_of_ble_eq_true rfl)⟩ (hT.o20 (hT.k t_this (by decide))) rfl rfl hl.1 rfl (Nat.le_of_ble_eq_true rfl) dX6_takesText_90 zroom.rf (fun s36 H locs hφ hEs36 hT => ?_)
        have kthis_7 : zI s36 this 7 = v1 := ((hTo.k t_this (by decide)).eI hEs36 (by decide) rfl).trans kthis_7
        have kthis_8 : zI s36 this 8 = v7 := ((hTo.k t_this (by decide)).eI hEs36 (by decide) rfl).trans kthis_8
        have wv37 : zJ s36 rW 0 = t15 := ((hTo.k trW (by decide)).eJ hEs36 (by decide) (lt3_gW 0 (by decide))).trans wv30
        have wv38 : zJ s36 rW 1 = t21 := ((hTo.k trW (by decide)).eJ hEs36 (by decide) (lt3_gW 1 (by decide))).trans wv31
        have wv39 : zJ s36 rW 2 = t28 := ((hTo.k trW (by decide)).eJ hEs36 (by decide) (lt3_gW 2 (by decide))).trans wv32
        have Y40 : ∀ j : Nat, j < ix k → zI s36 rP j = zI σ0 rQ j := by first | (rw [show zI s36 rP = zI s29 rP from funext fun k => (hTo.k trP (by decide)).eI hEs36 (by decide) rfl]; exact Y33) | rw [show zI s36 rP = zI s29 rP from funext fun k => (hTo.k trP (by decide)).eI hEs36 (by decide) rfl]
        have Y41 : ∀ j : Nat, j < ix k → zI s36 rF9 j = zI σ0 rV9 j := by first | (rw [show zI s36 rF9 = zI s29 rF9 from funext fun k => (hTo.k trF9 (by decide)).eI hEs36 (by decide) rfl]; exact Y34) | rw [show zI s36 rF9 = zI s29 rF9 from funext fun k => (hTo.k trF9 (by decide)).eI hEs36 (by decide) rfl]
        have f42 := hφ
        try simp only [erW, erP, ix_0, ix_1, ix_2, ix_3, ix_4, ix_5, ix_6, ix_7, ix_8, ix_9] at f42
        refine lv_aload_n hx hb dX6_takesText_93 rfl (lv_at hl 1 rfl) ?_
        obtain ⟨r43, er43⟩ : ∃ z, kR κ this 4 = z := ⟨_, rfl⟩
        have tr43 : zk σ0 r43 29 := by rw [← er43]; exact hT0.ref t_this (by decide) (by decide) (by decide)
        refine va_get (D := κ.1) (ci := 6) (v := .ref (kR κ this 4)) (C := RX6) (T := TX6) (N := 27) hx hb hg inX6 hown hK (hT.o20 (hT.k t_this (by decide))).one 0 rfl rfl 4 (by decide) (hg _ k1223) (fun _ h9 => h9) rfl dX6_takesText_94 ?_
        rw [er43]
        refine lv_iconst (v := 0) hx hb dX6_takesText_97 (by decide) ?_
        refine lv_iconst (v := 0) hx hb dX6_takesText_98 (by decide) ?_
        have hTo := hT
        refine tastz (n := 2) hx hb hK hT (hT.k tr43 (by decide)) ⟨by decide, by decide⟩ (fun _ _ _ => rfl) (fun _ _ => trivial) (fun _ => rfl) (by omega) (by omega) dX6_takesText_99 (fun H locs s44 hus44 hT => ?_)
        have kthis_7 : zI s44 this 7 = v1 := (zput_o hus44 (Or.inl ((hTo.k t_this (by decide)).ne (hTo.k tr43 (by decide)) (by decide)))).trans kthis_7
        have kthis_8 : zI s44 this 8 = v7 := (zput_o hus44 (Or.inl ((hTo.k t_this (by decide)).ne (hTo.k tr43 (by decide)) (by decide)))).trans kthis_8
        have wv45 : zJ s44 rW 0 = t15 := (congrFun (zput_J (x := rW) hus44) 0).trans wv37
        have wv46 : zJ s44 rW 1 = t21 := (congrFun (zput_J (x := rW) hus44) 1).trans wv38
        have wv47 : zJ s44 rW 2 = t28 := (congrFun (zput_J (x := rW) hus44) 2).trans wv39
        have Y48 : ∀ j : Nat, j < ix k → zI s44 rP j = zI σ0 rQ j := by first | (rw [show zI s44 rP = zI s36 rP from zput_Io hus44 ((hTo.k trP (by decide)).ne (hTo.k tr43 (by decide)) (by decide))]; exact Y40) | rw [show zI s44 rP = zI s36 rP from zput_Io hus44 ((hTo.k trP (by decide)).ne (hTo.k tr43 (by decide)) (by decide))]
        have Y49 : ∀ j : Nat, j < ix k → zI s44 rF9 j = zI σ0 rV9 j := by first | (rw [show zI s44 rF9 = zI s36 rF9 from zput_Io hus44 ((hTo.k trF9 (by decide)).ne (hTo.k tr43 (by decide)) (by decide))]; exact Y41) | rw [show zI s44 rF9 = zI s36 rF9 from zput_Io hus44 ((hTo.k trF9 (by decide)).ne (hTo.k tr43 (by decide)) (by decide))]
        refine lv_aload_n hx hb dX6_takesText_100 rfl (lv_at hl 1 rfl) ?_
        refine va_get (D := κ.1) (ci := 6) (v := .ref (kR κ this 4)) (C := RX6) (T := TX6) (N := 27) hx hb hg inX6 hown hK (hT.o20 (hT.k t_this (by decide))).one 0 rfl rfl 4 (by decide) (hg _ k1223) (fun _ h9 => h9) rfl dX6_takesText_101 ?_
        rw [er43]
        refine lv_iconst (v := 1) hx hb dX6_takesText_104 (by decide) ?_
        refine lv_iconst (v := 0) hx hb dX6_takesText_105 (by decide) ?_
        have hTo := hT
        refine tastz (n := 2) hx hb hK hT (hT.k tr43 (by decide)) ⟨by decide, by decide⟩ (fun _ _ _ => rfl) (fun _ _ => trivial) (fun _ => rfl) (by omega) (by omega) dX6_takesText_106 (fun H locs s50 hus50 hT => ?_)
        have kthis_7 : zI s50 this 7 = v1 := (zput_o hus50 (Or.inl ((hTo.k t_this (by decide)).ne (hTo.k tr43 (by decide)) (by decide)))).trans kthis_7
        have kthis_8 : zI s50 this 8 = v7 := (zput_o hus50 (Or.inl ((hTo.k t_this (by decide)).ne (hTo.k tr43 (by decide)) (by decide)))).trans kthis_8
        have wv51 : zJ s50 rW 0 = t15 := (congrFun (zput_J (x := rW) hus50) 0).trans wv45
        have wv52 : zJ s50 rW 1 = t21 := (congrFun (zput_J (x := rW) hus50) 1).trans wv46
        have wv53 : zJ s50 rW 2 = t28 := (congrFun (zput_J (x := rW) hus50) 2).trans wv47
        have Y54 : ∀ j : Nat, j < ix k → zI s50 rP j = zI σ0 rQ j := by first | (rw [show zI s50 rP = zI s44 rP from zput_Io hus50 ((hTo.k trP (by decide)).ne (hTo.k tr43 (by decide)) (by decide))]; exact Y48) | rw [show zI s50 rP = zI s44 rP from zput_Io hus50 ((hTo.k trP (by decide)).ne (hTo.k tr43 (by decide)) (by decide))]
        have Y55 : ∀ j : Nat, j < ix k → zI s50 rF9 j = zI σ0 rV9 j := by first | (rw [show zI s50 rF9 = zI s44 rF9 from zput_Io hus50 ((hTo.k trF9 (by decide)).ne (hTo.k tr43 (by decide)) (by decide))]; exact Y49) | rw [show zI s50 rF9 = zI s44 rF9 from zput_Io hus50 ((hTo.k trF9 (by decide)).ne (hTo.k tr43 (by decide)) (by decide))]
        have z0 : zI s44 r43 (ix 0) = 0 := zput_at hus44
        have z1 : zI s50 r43 (ix 1) = 0 := zput_at hus50
        have z2 : zI s50 r43 (ix 0) = 0 := (zput_o hus50 (Or.inr (by decide))).trans z0
        rw [ix_0] at z2
        rw [ix_1] at z1
        have z3 : WI (rN s50 this) (zJ s50 rW) := by have z9 := f42; rw [← (show rN s50 this = rN s29 this from by unfold rN; rw [(show zI s50 this 7 = v1 from kthis_7), e7a]), ← zput_J (x := rW) hus44, ← zput_J (x := rW) hus50] at z9; exact z9
        subst hQ9
        exact t_v hx hb hr hlocks hT ⟨(RI.fresh0 ⟨hT.k t_this (by decide), by rw [erW]; exact hT.k trW (by decide), hT0.ref3 hT t_this, hT0.ref4 hT t_this, by rw [erP]; exact hT.k trP (by decide)⟩ (by rw [erW]; exact z3) (by rw [erP, show rN s50 this = (zI σ0 this 18).toInt.toNat from by unfold rN; rw [(show zI s50 this 7 = v1 from kthis_7), ev1]]; exact h4.congr (fun j hj => Y54 j (by rw [ev1] at hj; unfold ix; omega))) (by rw [er43]; exact ⟨z2, z1⟩) (by rw [hT.eI t_this (by decide) rfl rfl]; exact ⟨h0, h1⟩)), by rw [er43]; exact z2, by rw [er43]; exact z1, kthis_7.trans ev1.symm, by rw [erW, wv51]; omega, by rw [erW, wv52]; omega, by rw [erW, wv53]; omega, kthis_8.trans ev7.symm, (fun j hj => by rw [erP, erQ]; exact Y54 j (by rw [ev1] at hj; unfold ix; omega)), fun j hj => by rw [erF9, erV9]; exact Y55 j (by rw [ev1] at hj; unfold ix; omega)⟩ dX6_takesText_107
      · have c2 := gi_nle c9
        refine lv_aload_n hx hb dX6_takesText_26 rfl (lv_at hl 1 rfl) ?_
        refine va_get (D := κ.1) (ci := 6) (v := .ref (kR κ this 5)) (C := RX6) (T := TX6) (N := 27) hx hb hg inX6 hown hK (hT.o20 (hT.k t_this (by decide))).one 0 rfl rfl 5 (by decide) (hg _ k1224) (fun _ h9 => h9) rfl dX6_takesText_27 ?_
        rw [erP]
        refine lv_iload_n hx hb dX6_takesText_30 rfl (lv_at hl 0 rfl) ?_
        refine lv_aload_n hx hb dX6_takesText_31 rfl (lv_at hl 1 rfl) ?_
        refine va_get (D := κ.1) (ci := 6) (v := .ref (kR κ this 25)) (C := RX6) (T := TX6) (N := 27) hx hb hg inX6 hown hK (hT.o20 (hT.k t_this (by decide))).one 0 rfl rfl 25 (by decide) (hg _ k1244) (fun _ h9 => h9) rfl dX6_takesText_32 ?_
        rw [erQ]
        refine lv_iload_n hx hb dX6_takesText_35 rfl (lv_at hl 0 rfl) ?_
        refine va_iald hx hb hK (hT.o27 (hT.k trQ (by decide))).one 0 0 rfl rfl (g_in (by omega) (by omega)) dX6_takesText_36 ?_
        refine lv_topi (fun t56 ht56 => ?_)
        have hTo := hT
        refine tasti (n := 48) hx hb hK hT (hT.k trP (by decide)) ⟨by decide, by decide⟩ (fun _ _ _ => rfl) (fun _ _ => trivial) (fun _ => rfl) (by omega) (by omega) dX6_takesText_37 (fun H locs s57 hus57 hT => ?_)
        have kthis_7 : zI s57 this 7 = v1 := (zput_o hus57 (Or.inl ((hTo.k t_this (by decide)).ne (hTo.k trP (by decide)) (by decide)))).trans kthis_7
        have kthis_8 : zI s57 this 8 = v7 := (zput_o hus57 (Or.inl ((hTo.k t_this (by decide)).ne (hTo.k trP (by decide)) (by decide)))).trans kthis_8
        have Y58 : ∀ j : Nat, j < ix k → zI s57 rF9 j = zI σ0 rV9 j := by first | (rw [show zI s57 rF9 = zI s13 rF9 from zput_Io hus57 ((hTo.k trF9 (by decide)).ne (hTo.k trP (by decide)) (by decide))]; exact q4) | rw [show zI s57 rF9 = zI s13 rF9 from zput_Io hus57 ((hTo.k trF9 (by decide)).ne (hTo.k trP (by decide)) (by decide))]
        have Y59 : ∀ j : Nat, j < ix k + 1 → zI s57 rP j = zI σ0 rQ j := fun j hj => (Classical.em (j = ix k)).elim (fun e9 => by rw [e9, zput_at hus57, ht56]; exact hTo.eI trQ (by decide) rfl rfl) (fun e9 => (zput_o hus57 (Or.inr e9)).trans (q3 j (by omega)))
        refine lv_aload_n hx hb dX6_takesText_38 rfl (lv_at hl 1 rfl) ?_
        refine va_get (D := κ.1) (ci := 6) (v := .ref (kR κ this 6)) (C := RX6) (T := TX6) (N := 27) hx hb hg inX6 hown hK (hT.o20 (hT.k t_this (by decide))).one 0 rfl rfl 6 (by decide) (hg _ k1225) (fun _ h9 => h9) rfl dX6_takesText_39 ?_
        rw [erF9]
        refine lv_iload_n hx hb dX6_takesText_42 rfl (lv_at hl 0 rfl) ?_
        refine lv_aload_n hx hb dX6_takesText_43 rfl (lv_at hl 1 rfl) ?_
        refine va_get (D := κ.1) (ci := 6) (v := .ref (kR κ this 26)) (C := RX6) (T := TX6) (N := 27) hx hb hg inX6 hown hK (hT.o20 (hT.k t_this (by decide))).one 0 rfl rfl 26 (by decide) (hg _ k1245) (fun _ h9 => h9) rfl dX6_takesText_44 ?_
        rw [erV9]
        refine lv_iload_n hx hb dX6_takesText_47 rfl (lv_at hl 0 rfl) ?_
        refine va_iald hx hb hK (hT.o28 (hT.k trV9 (by decide))).one 0 0 rfl rfl (g_in (by omega) (by omega)) dX6_takesText_48 ?_
        refine lv_topi (fun t60 ht60 => ?_)
        have hTo := hT
        refine tasti (n := 48) hx hb hK hT (hT.k trF9 (by decide)) ⟨by decide, by decide⟩ (fun _ _ _ => rfl) (fun _ _ => trivial) (fun _ => rfl) (by omega) (by omega) dX6_takesText_49 (fun H locs s61 hus61 hT => ?_)
        have kthis_7 : zI s61 this 7 = v1 := (zput_o hus61 (Or.inl ((hTo.k t_this (by decide)).ne (hTo.k trF9 (by decide)) (by decide)))).trans kthis_7
        have kthis_8 : zI s61 this 8 = v7 := (zput_o hus61 (Or.inl ((hTo.k t_this (by decide)).ne (hTo.k trF9 (by decide)) (by decide)))).trans kthis_8
        have Y62 : ∀ j : Nat, j < ix k + 1 → zI s61 rP j = zI σ0 rQ j := by first | (rw [show zI s61 rP = zI s57 rP from zput_Io hus61 ((hTo.k trP (by decide)).ne (hTo.k trF9 (by decide)) (by decide))]; exact Y59) | rw [show zI s61 rP = zI s57 rP from zput_Io hus61 ((hTo.k trP (by decide)).ne (hTo.k trF9 (by decide)) (by decide))]
        have Y63 : ∀ j : Nat, j < ix k + 1 → zI s61 rF9 j = zI σ0 rV9 j := fun j hj => (Classical.em (j = ix k)).elim (fun e9 => by rw [e9, zput_at hus61, ht60]; exact hTo.eI trV9 (by decide) rfl rfl) (fun e9 => (zput_o hus61 (Or.inr e9)).trans (Y58 j (by omega)))
        obtain ⟨t64, qt64⟩ : ∃ zz9 : Int32, k + Int32.ofInt 1 = zz9 := ⟨_, rfl⟩
        refine lv_iinc (v := t64) (lv' := [(1, .int t64), (0, .ref this)]) hx hb dX6_takesText_50 hl (k := 0) rfl qt64 (by decide) rfl (fun ls hl => ?_)
        have ht64 : t64.toInt = k.toInt + 1 := by rw [← qt64]; exact v_addi rfl (show (Int32.ofInt 1).toInt = 1 from by decide) (by omega) (by omega)
        refine lv_goto (tgt := 18) hx hb dX6_takesText_53 (by decide) ?_
        exact ih18 t64 _ _ _ _ hT kthis_7 kthis_8 (by omega) (by omega) (by rw [show ix t64 = ix k + 1 from by unfold ix; omega]; exact Y62) (by rw [show ix t64 = ix k + 1 from by unfold ix; omega]; exact Y63) hl (by omega)
  exact loop18 ((48 - (0 : Int32).toInt).toNat + 1) 0 _ _ _ _ hT e6 e12 (by omega) (by omega) (fun j hj => by rw [ix_0] at hj; omega) (fun j hj => by rw [ix_0] at hj; omega) hl (by omega)
set_option maxHeartbeats 4000000 in
set_option maxRecDepth 100000 in
theorem X6s_load (l : Launch) (κ : Kt) (σ0 : Gh) (this : Nat) {tc : Nat → Int} {Ln : Nat} (t_this : zk σ0 this 20) (h0 : RI κ σ0 this) (h1 : TXm κ σ0 this tc Ln) : TC l yX6_load cX6_load 1 (some .int) 8 185 [.ref this] κ σ0 (tqi κ gLd σ0 (fun (r : Int32) (τ : Gh) => (RI κ τ this) ∧ ((zI τ this 13).toInt = 0) ∧ (∃ (x9 : uRd) (co po : Int), uRds tc Ln x9 co po ∧ (((zI τ this 0).toInt = 0 ∧ co = 0 ∧ r.toInt = po ∧ (zI τ this 15).toInt = 0 ∧ (zI τ this 16).toInt = -1 ∧ zI τ (kR κ this 4) 0 = 0 ∧ zI τ (kR κ this 4) 1 = 0 ∧ (zJ τ (kR κ this 1) 0).toInt = x9.2.2.2.2 0 ∧ (zJ τ (kR κ this 1) 1).toInt = x9.2.2.2.2 1 ∧ (zJ τ (kR κ this 1) 2).toInt = x9.2.2.2.2 2 ∧ (zI τ this 7).toInt = po ∧ (zI τ this 8).toInt = x9.2.2.2.2 3 ∧ usP (zI τ (kR κ this 5)) po.toNat x9.2.2.2.2 ∧ usO (zI τ (kR κ this 6)) po.toNat x9.2.2.2.2 ∧ usB po.toNat x9.2.2.2.2) ∨ ((zI τ this 0).toInt = 1 ∧ co ≠ 0 ∧ (zI τ this 15).toInt = co ∧ (zI τ this 16).toInt = po ∧ zI τ (kR κ this 4) = zI σ0 (kR κ this 4) ∧ ∀ j : Nat, j < 3 → zJ τ (kR κ this 1) j = zJ σ0 (kR κ this 1) j ∧ zI τ this 7 = zI σ0 this 7 ∧ zI τ this 8 = zI σ0 this 8 ∧ zI τ (kR κ this 5) = zI σ0 (kR κ this 5) ∧ zI τ (kR κ this 6) = zI σ0 (kR κ this 6)))))) := by
  refine TC.of gLd (by decide +kernel) (Nat.le_of_ble_eq_true rfl) ?_
  intro p e s m below meth c ls hcs hK hX hT hl
  obtain ⟨hx, hb, hr, hml, hown, hg, hlocks, hin⟩ := hcs
  have hown : s.vm.findClass RX6 = some m.cls := hown
  have hl : lv_has ls 1 [(0, .ref this)] := hl
  have hT0 := hT
  have nm1 : ((-1) : Int32).toInt = (-1) := by decide
  have n0 : (0 : Int32).toInt = 0 := by decide
  have n1 : (1 : Int32).toInt = 1 := by decide
  have n2 : (2 : Int32).toInt = 2 := by decide
  generalize hQ9 : tQ _ _ _ _ _ _ = Q9
  obtain ⟨rW, erW⟩ : ∃ z, kR κ this 1 = z := ⟨_, rfl⟩
  have trW : zk σ0 rW 21 := by rw [← erW]; exact h0.1.2.1
  obtain ⟨rP, erP⟩ : ∃ z, kR κ this 5 = z := ⟨_, rfl⟩
  have trP : zk σ0 rP 25 := by rw [← erP]; exact h0.1.2.2.2.2
  have hB0 := h0.b
  rw [erW] at hB0
  have hW := h0.2.1
  rw [erW] at hW
  have hP := h0.2.2.1
  rw [erP] at hP
  have hrN : (rN σ0 this : Int) = (zI σ0 this 7).toInt := by unfold rN; omega
  obtain ⟨rQ, erQ⟩ : ∃ z, kR κ this 25 = z := ⟨_, rfl⟩
  have trQ : zk σ0 rQ 27 := by rw [← erQ]; exact hT0.ref t_this (by decide) (by decide) (by decide)
  obtain ⟨rV, erV⟩ : ∃ z, kR κ this 26 = z := ⟨_, rfl⟩
  have trV : zk σ0 rV 28 := by rw [← erV]; exact hT0.ref t_this (by decide) (by decide) (by decide)
  obtain ⟨rK, erK⟩ : ∃ z, kR κ this 4 = z := ⟨_, rfl⟩
  have trK : zk σ0 rK 29 := by rw [← erK]; exact hT0.ref t_this (by decide) (by decide) (by decide)
  have hTX := h1
  obtain ⟨rT, erT⟩ : ∃ z, kR κ this 12 = z := ⟨_, rfl⟩
  have trT : zk σ0 rT 23 := by rw [← erT]; exact hT0.ref t_this (by decide) (by decide) (by decide)
  have hpc : ∀ j, tc j = (zI σ0 rT j).toInt := by rw [← erT]; exact hTX.1
  have hLn : (zI σ0 this 13).toInt = Ln := hTX.2.1
  have hL7 : Ln ≤ 700 := hTX.2.2.1
  have hnn := hTX.2.2.2
  have kq : zI σ0 rK = zI σ0 rK := rfl
  obtain ⟨rF, erF⟩ : ∃ z, kR κ this 6 = z := ⟨_, rfl⟩
  have trF : zk σ0 rF 26 := by rw [← erF]; exact hT0.ref t_this (by decide) (by decide) (by decide)
  have kp : zI σ0 rP = zI σ0 rP := rfl
  have kf : zI σ0 rF = zI σ0 rF := rfl
  have wv0_0 : zJ σ0 rW 0 = zJ σ0 rW 0 := rfl
  have wv1_0 : zJ σ0 rW 1 = zJ σ0 rW 1 := rfl
  have wv2_0 : zJ σ0 rW 2 = zJ σ0 rW 2 := rfl
  obtain ⟨v1, ev1⟩ : ∃ zz9 : Int32, zI σ0 this 13 = zz9 := ⟨_, rfl⟩
  have qv1 : v1.toInt = (zI σ0 this 13).toInt := by rw [ev1]
  have zthis13 : zI σ0 this 13 = v1 := ev1
  obtain ⟨v2, ev2⟩ : ∃ zz9 : Int32, zI σ0 this 7 = zz9 := ⟨_, rfl⟩
  have qv2 : v2.toInt = (zI σ0 this 7).toInt := by rw [ev2]
  have zthis7 : zI σ0 this 7 = v2 := ev2
  obtain ⟨v3, ev3⟩ : ∃ zz9 : Int32, zI σ0 this 8 = zz9 := ⟨_, rfl⟩
  have qv3 : v3.toInt = (zI σ0 this 8).toInt := by rw [ev3]
  have zthis8 : zI σ0 this 8 = v3 := ev3
  refine lv_aload_n hx hb dX6_load_0 rfl (lv_at hl 0 rfl) ?_
  refine lv_iconst (v := 0) hx hb dX6_load_1 (by decide) ?_
  have hTo := hT
  refine pf20_0 hx hb hg hown hK hT (hT.k t_this (by decide)) rfl (hg _ k1219) dX6_load_2 (fun H locs s4 hus4 hT => ?_)
  have ev1 : zI s4 this 13 = v1 := (zput_o hus4 (Or.inr (by decide))).trans ev1
  have ev2 : zI s4 this 7 = v2 := (zput_o hus4 (Or.inr (by decide))).trans ev2
  have ev3 : zI s4 this 8 = v3 := (zput_o hus4 (Or.inr (by decide))).trans ev3
  have R5 : RI κ s4 this := h0.put hus4 (hTo.k t_this (by decide)) (by decide)
  have B6 := R5.b
  rw [erW] at B6
  have wv7 : zJ s4 rW 0 = zJ σ0 rW 0 := (congrFun (zput_J (x := rW) hus4) 0).trans wv0_0
  have wv8 : zJ s4 rW 1 = zJ σ0 rW 1 := (congrFun (zput_J (x := rW) hus4) 1).trans wv1_0
  have wv9 : zJ s4 rW 2 = zJ σ0 rW 2 := (congrFun (zput_J (x := rW) hus4) 2).trans wv2_0
  have Y10 : zI s4 rK = zI σ0 rK := by first | (rw [show zI s4 rK = zI σ0 rK from zput_Io hus4 ((hTo.k trK (by decide)).ne (hTo.k t_this (by decide)) (by decide))]; exact kq) | rw [show zI s4 rK = zI σ0 rK from zput_Io hus4 ((hTo.k trK (by decide)).ne (hTo.k t_this (by decide)) (by decide))]
  have Y11 : zI s4 rP = zI σ0 rP := by first | (rw [show zI s4 rP = zI σ0 rP from zput_Io hus4 ((hTo.k trP (by decide)).ne (hTo.k t_this (by decide)) (by decide))]; exact kp) | rw [show zI s4 rP = zI σ0 rP from zput_Io hus4 ((hTo.k trP (by decide)).ne (hTo.k t_this (by decide)) (by decide))]
  have Y12 : zI s4 rF = zI σ0 rF := by first | (rw [show zI s4 rF = zI σ0 rF from zput_Io hus4 ((hTo.k trF (by decide)).ne (hTo.k t_this (by decide)) (by decide))]; exact kf) | rw [show zI s4 rF = zI σ0 rF from zput_Io hus4 ((hTo.k trF (by decide)).ne (hTo.k t_this (by decide)) (by decide))]
  have e13 : zI s4 this 0 = 0 := zput_at hus4
  refine lv_aload_n hx hb dX6_load_5 rfl (lv_at hl 0 rfl) ?_
  refine lv_iconst (v := 0) hx hb dX6_load_6 (by decide) ?_
  have hTo := hT
  refine pf20_15 hx hb hg hown hK hT (hT.k t_this (by decide)) rfl (hg _ k1234) dX6_load_7 (fun H locs s14 hus14 hT => ?_)
  have ev1 : zI s14 this 13 = v1 := (zput_o hus14 (Or.inr (by decide))).trans ev1
  have ev2 : zI s14 this 7 = v2 := (zput_o hus14 (Or.inr (by decide))).trans ev2
  have ev3 : zI s14 this 8 = v3 := (zput_o hus14 (Or.inr (by decide))).trans ev3
  have e13 : zI s14 this 0 = 0 := (zput_o hus14 (Or.inr (by decide))).trans e13
  have R15 : RI κ s14 this := R5.put hus14 (hTo.k t_this (by decide)) (by decide)
  have B16 := R15.b
  rw [erW] at B16
  have wv17 : zJ s14 rW 0 = zJ σ0 rW 0 := (congrFun (zput_J (x := rW) hus14) 0).trans wv7
  have wv18 : zJ s14 rW 1 = zJ σ0 rW 1 := (congrFun (zput_J (x := rW) hus14) 1).trans wv8
  have wv19 : zJ s14 rW 2 = zJ σ0 rW 2 := (congrFun (zput_J (x := rW) hus14) 2).trans wv9
  have Y20 : zI s14 rK = zI σ0 rK := by first | (rw [show zI s14 rK = zI s4 rK from zput_Io hus14 ((hTo.k trK (by decide)).ne (hTo.k t_this (by decide)) (by decide))]; exact Y10) | rw [show zI s14 rK = zI s4 rK from zput_Io hus14 ((hTo.k trK (by decide)).ne (hTo.k t_this (by decide)) (by decide))]
  have Y21 : zI s14 rP = zI σ0 rP := by first | (rw [show zI s14 rP = zI s4 rP from zput_Io hus14 ((hTo.k trP (by decide)).ne (hTo.k t_this (by decide)) (by decide))]; exact Y11) | rw [show zI s14 rP = zI s4 rP from zput_Io hus14 ((hTo.k trP (by decide)).ne (hTo.k t_this (by decide)) (by decide))]
  have Y22 : zI s14 rF = zI σ0 rF := by first | (rw [show zI s14 rF = zI s4 rF from zput_Io hus14 ((hTo.k trF (by decide)).ne (hTo.k t_this (by decide)) (by decide))]; exact Y12) | rw [show zI s14 rF = zI s4 rF from zput_Io hus14 ((hTo.k trF (by decide)).ne (hTo.k t_this (by decide)) (by decide))]
  have e23 : zI s14 this 15 = 0 := zput_at hus14
  refine lv_aload_n hx hb dX6_load_10 rfl (lv_at hl 0 rfl) ?_
  refine lv_iconst (v := (-1)) hx hb dX6_load_11 (by decide) ?_
  have hTo := hT
  refine pf20_16 hx hb hg hown hK hT (hT.k t_this (by decide)) rfl (hg _ k1235) dX6_load_12 (fun H locs s24 hus24 hT => ?_)
  have ev1 : zI s24 this 13 = v1 := (zput_o hus24 (Or.inr (by decide))).trans ev1
  have ev2 : zI s24 this 7 = v2 := (zput_o hus24 (Or.inr (by decide))).trans ev2
  have ev3 : zI s24 this 8 = v3 := (zput_o hus24 (Or.inr (by decide))).trans ev3
  have e13 : zI s24 this 0 = 0 := (zput_o hus24 (Or.inr (by decide))).trans e13
  have e23 : zI s24 this 15 = 0 := (zput_o hus24 (Or.inr (by decide))).trans e23
  have R25 : RI κ s24 this := R15.put hus24 (hTo.k t_this (by decide)) (by decide)
  have B26 := R25.b
  rw [erW] at B26
  have wv27 : zJ s24 rW 0 = zJ σ0 rW 0 := (congrFun (zput_J (x := rW) hus24) 0).trans wv17
  have wv28 : zJ s24 rW 1 = zJ σ0 rW 1 := (congrFun (zput_J (x := rW) hus24) 1).trans wv18
  have wv29 : zJ s24 rW 2 = zJ σ0 rW 2 := (congrFun (zput_J (x := rW) hus24) 2).trans wv19
  have Y30 : zI s24 rK = zI σ0 rK := by first | (rw [show zI s24 rK = zI s14 rK from zput_Io hus24 ((hTo.k trK (by decide)).ne (hTo.k t_this (by decide)) (by decide))]; exact Y20) | rw [show zI s24 rK = zI s14 rK from zput_Io hus24 ((hTo.k trK (by decide)).ne (hTo.k t_this (by decide)) (by decide))]
  have Y31 : zI s24 rP = zI σ0 rP := by first | (rw [show zI s24 rP = zI s14 rP from zput_Io hus24 ((hTo.k trP (by decide)).ne (hTo.k t_this (by decide)) (by decide))]; exact Y21) | rw [show zI s24 rP = zI s14 rP from zput_Io hus24 ((hTo.k trP (by decide)).ne (hTo.k t_this (by decide)) (by decide))]
  have Y32 : zI s24 rF = zI σ0 rF := by first | (rw [show zI s24 rF = zI s14 rF from zput_Io hus24 ((hTo.k trF (by decide)).ne (hTo.k t_this (by decide)) (by decide))]; exact Y22) | rw [show zI s24 rF = zI s14 rF from zput_Io hus24 ((hTo.k trF (by decide)).ne (hTo.k t_this (by decide)) (by decide))]
  have e33 : zI s24 this 16 = (-1) := zput_at hus24
  refine lv_aload_n hx hb dX6_load_15 rfl (lv_at hl 0 rfl) ?_
  refine lv_iconst (v := 0) hx hb dX6_load_16 (by decide) ?_
  have hTo := hT
  refine pf20_18 hx hb hg hown hK hT (hT.k t_this (by decide)) rfl (hg _ k1237) dX6_load_17 (fun H locs s34 hus34 hT => ?_)
  have ev1 : zI s34 this 13 = v1 := (zput_o hus34 (Or.inr (by decide))).trans ev1
  have ev2 : zI s34 this 7 = v2 := (zput_o hus34 (Or.inr (by decide))).trans ev2
  have ev3 : zI s34 this 8 = v3 := (zput_o hus34 (Or.inr (by decide))).trans ev3
  have e13 : zI s34 this 0 = 0 := (zput_o hus34 (Or.inr (by decide))).trans e13
  have e23 : zI s34 this 15 = 0 := (zput_o hus34 (Or.inr (by decide))).trans e23
  have e33 : zI s34 this 16 = (-1) := (zput_o hus34 (Or.inr (by decide))).trans e33
  have R35 : RI κ s34 this := R25.put hus34 (hTo.k t_this (by decide)) (by decide)
  have B36 := R35.b
  rw [erW] at B36
  have wv37 : zJ s34 rW 0 = zJ σ0 rW 0 := (congrFun (zput_J (x := rW) hus34) 0).trans wv27
  have wv38 : zJ s34 rW 1 = zJ σ0 rW 1 := (congrFun (zput_J (x := rW) hus34) 1).trans wv28
  have wv39 : zJ s34 rW 2 = zJ σ0 rW 2 := (congrFun (zput_J (x := rW) hus34) 2).trans wv29
  have Y40 : zI s34 rK = zI σ0 rK := by first | (rw [show zI s34 rK = zI s24 rK from zput_Io hus34 ((hTo.k trK (by decide)).ne (hTo.k t_this (by decide)) (by decide))]; exact Y30) | rw [show zI s34 rK = zI s24 rK from zput_Io hus34 ((hTo.k trK (by decide)).ne (hTo.k t_this (by decide)) (by decide))]
  have Y41 : zI s34 rP = zI σ0 rP := by first | (rw [show zI s34 rP = zI s24 rP from zput_Io hus34 ((hTo.k trP (by decide)).ne (hTo.k t_this (by decide)) (by decide))]; exact Y31) | rw [show zI s34 rP = zI s24 rP from zput_Io hus34 ((hTo.k trP (by decide)).ne (hTo.k t_this (by decide)) (by decide))]
  have Y42 : zI s34 rF = zI σ0 rF := by first | (rw [show zI s34 rF = zI s24 rF from zput_Io hus34 ((hTo.k trF (by decide)).ne (hTo.k t_this (by decide)) (by decide))]; exact Y32) | rw [show zI s34 rF = zI s24 rF from zput_Io hus34 ((hTo.k trF (by decide)).ne (hTo.k t_this (by decide)) (by decide))]
  have e43 : zI s34 this 18 = 0 := zput_at hus34
  refine lv_aload_n hx hb dX6_load_20 rfl (lv_at hl 0 rfl) ?_
  refine lv_iconst (v := 2) hx hb dX6_load_21 (by decide) ?_
  have hTo := hT
  refine pf20_19 hx hb hg hown hK hT (hT.k t_this (by decide)) rfl (hg _ k1238) dX6_load_22 (fun H locs s44 hus44 hT => ?_)
  have ev1 : zI s44 this 13 = v1 := (zput_o hus44 (Or.inr (by decide))).trans ev1
  have ev2 : zI s44 this 7 = v2 := (zput_o hus44 (Or.inr (by decide))).trans ev2
  have ev3 : zI s44 this 8 = v3 := (zput_o hus44 (Or.inr (by decide))).trans ev3
  have e13 : zI s44 this 0 = 0 := (zput_o hus44 (Or.inr (by decide))).trans e13
  have e23 : zI s44 this 15 = 0 := (zput_o hus44 (Or.inr (by decide))).trans e23
  have e33 : zI s44 this 16 = (-1) := (zput_o hus44 (Or.inr (by decide))).trans e33
  have e43 : zI s44 this 18 = 0 := (zput_o hus44 (Or.inr (by decide))).trans e43
  have R45 : RI κ s44 this := R35.put hus44 (hTo.k t_this (by decide)) (by decide)
  have B46 := R45.b
  rw [erW] at B46
  have wv47 : zJ s44 rW 0 = zJ σ0 rW 0 := (congrFun (zput_J (x := rW) hus44) 0).trans wv37
  have wv48 : zJ s44 rW 1 = zJ σ0 rW 1 := (congrFun (zput_J (x := rW) hus44) 1).trans wv38
  have wv49 : zJ s44 rW 2 = zJ σ0 rW 2 := (congrFun (zput_J (x := rW) hus44) 2).trans wv39
  have Y50 : zI s44 rK = zI σ0 rK := by first | (rw [show zI s44 rK = zI s34 rK from zput_Io hus44 ((hTo.k trK (by decide)).ne (hTo.k t_this (by decide)) (by decide))]; exact Y40) | rw [show zI s44 rK = zI s34 rK from zput_Io hus44 ((hTo.k trK (by decide)).ne (hTo.k t_this (by decide)) (by decide))]
  have Y51 : zI s44 rP = zI σ0 rP := by first | (rw [show zI s44 rP = zI s34 rP from zput_Io hus44 ((hTo.k trP (by decide)).ne (hTo.k t_this (by decide)) (by decide))]; exact Y41) | rw [show zI s44 rP = zI s34 rP from zput_Io hus44 ((hTo.k trP (by decide)).ne (hTo.k t_this (by decide)) (by decide))]
  have Y52 : zI s44 rF = zI σ0 rF := by first | (rw [show zI s44 rF = zI s34 rF from zput_Io hus44 ((hTo.k trF (by decide)).ne (hTo.k t_this (by decide)) (by decide))]; exact Y42) | rw [show zI s44 rF = zI s34 rF from zput_Io hus44 ((hTo.k trF (by decide)).ne (hTo.k t_this (by decide)) (by decide))]
  have e53 : zI s44 this 19 = 2 := zput_at hus44
  refine lv_aload_n hx hb dX6_load_25 rfl (lv_at hl 0 rfl) ?_
  refine lv_iconst (v := 0) hx hb dX6_load_26 (by decide) ?_
  have hTo := hT
  refine pf20_20 hx hb hg hown hK hT (hT.k t_this (by decide)) rfl (hg _ k1239) dX6_load_27 (fun H locs s54 hus54 hT => ?_)
  have ev1 : zI s54 this 13 = v1 := (zput_o hus54 (Or.inr (by decide))).trans ev1
  have ev2 : zI s54 this 7 = v2 := (zput_o hus54 (Or.inr (by decide))).trans ev2
  have ev3 : zI s54 this 8 = v3 := (zput_o hus54 (Or.inr (by decide))).trans ev3
  have e13 : zI s54 this 0 = 0 := (zput_o hus54 (Or.inr (by decide))).trans e13
  have e23 : zI s54 this 15 = 0 := (zput_o hus54 (Or.inr (by decide))).trans e23
  have e33 : zI s54 this 16 = (-1) := (zput_o hus54 (Or.inr (by decide))).trans e33
  have e43 : zI s54 this 18 = 0 := (zput_o hus54 (Or.inr (by decide))).trans e43
  have e53 : zI s54 this 19 = 2 := (zput_o hus54 (Or.inr (by decide))).trans e53
  have R55 : RI κ s54 this := R45.put hus54 (hTo.k t_this (by decide)) (by decide)
  have B56 := R55.b
  rw [erW] at B56
  have wv57 : zJ s54 rW 0 = zJ σ0 rW 0 := (congrFun (zput_J (x := rW) hus54) 0).trans wv47
  have wv58 : zJ s54 rW 1 = zJ σ0 rW 1 := (congrFun (zput_J (x := rW) hus54) 1).trans wv48
  have wv59 : zJ s54 rW 2 = zJ σ0 rW 2 := (congrFun (zput_J (x := rW) hus54) 2).trans wv49
  have Y60 : zI s54 rK = zI σ0 rK := by first | (rw [show zI s54 rK = zI s44 rK from zput_Io hus54 ((hTo.k trK (by decide)).ne (hTo.k t_this (by decide)) (by decide))]; exact Y50) | rw [show zI s54 rK = zI s44 rK from zput_Io hus54 ((hTo.k trK (by decide)).ne (hTo.k t_this (by decide)) (by decide))]
  have Y61 : zI s54 rP = zI σ0 rP := by first | (rw [show zI s54 rP = zI s44 rP from zput_Io hus54 ((hTo.k trP (by decide)).ne (hTo.k t_this (by decide)) (by decide))]; exact Y51) | rw [show zI s54 rP = zI s44 rP from zput_Io hus54 ((hTo.k trP (by decide)).ne (hTo.k t_this (by decide)) (by decide))]
  have Y62 : zI s54 rF = zI σ0 rF := by first | (rw [show zI s54 rF = zI s44 rF from zput_Io hus54 ((hTo.k trF (by decide)).ne (hTo.k t_this (by decide)) (by decide))]; exact Y52) | rw [show zI s54 rF = zI s44 rF from zput_Io hus54 ((hTo.k trF (by decide)).ne (hTo.k t_this (by decide)) (by decide))]
  have e63 : zI s54 this 20 = 0 := zput_at hus54
  refine lv_aload_n hx hb dX6_load_30 rfl (lv_at hl 0 rfl) ?_
  refine lv_iconst (v := 2) hx hb dX6_load_31 (by decide) ?_
  have hTo := hT
  refine pf20_21 hx hb hg hown hK hT (hT.k t_this (by decide)) rfl (hg _ k1240) dX6_load_32 (fun H locs s64 hus64 hT => ?_)
  have ev1 : zI s64 this 13 = v1 := (zput_o hus64 (Or.inr (by decide))).trans ev1
  have ev2 : zI s64 this 7 = v2 := (zput_o hus64 (Or.inr (by decide))).trans ev2
  have ev3 : zI s64 this 8 = v3 := (zput_o hus64 (Or.inr (by decide))).trans ev3
  have e13 : zI s64 this 0 = 0 := (zput_o hus64 (Or.inr (by decide))).trans e13
  have e23 : zI s64 this 15 = 0 := (zput_o hus64 (Or.inr (by decide))).trans e23
  have e33 : zI s64 this 16 = (-1) := (zput_o hus64 (Or.inr (by decide))).trans e33
  have e43 : zI s64 this 18 = 0 := (zput_o hus64 (Or.inr (by decide))).trans e43
  have e53 : zI s64 this 19 = 2 := (zput_o hus64 (Or.inr (by decide))).trans e53
  have e63 : zI s64 this 20 = 0 := (zput_o hus64 (Or.inr (by decide))).trans e63
  have R65 : RI κ s64 this := R55.put hus64 (hTo.k t_this (by decide)) (by decide)
  have B66 := R65.b
  rw [erW] at B66
  have wv67 : zJ s64 rW 0 = zJ σ0 rW 0 := (congrFun (zput_J (x := rW) hus64) 0).trans wv57
  have wv68 : zJ s64 rW 1 = zJ σ0 rW 1 := (congrFun (zput_J (x := rW) hus64) 1).trans wv58
  have wv69 : zJ s64 rW 2 = zJ σ0 rW 2 := (congrFun (zput_J (x := rW) hus64) 2).trans wv59
  have Y70 : zI s64 rK = zI σ0 rK := by first | (rw [show zI s64 rK = zI s54 rK from zput_Io hus64 ((hTo.k trK (by decide)).ne (hTo.k t_this (by decide)) (by decide))]; exact Y60) | rw [show zI s64 rK = zI s54 rK from zput_Io hus64 ((hTo.k trK (by decide)).ne (hTo.k t_this (by decide)) (by decide))]
  have Y71 : zI s64 rP = zI σ0 rP := by first | (rw [show zI s64 rP = zI s54 rP from zput_Io hus64 ((hTo.k trP (by decide)).ne (hTo.k t_this (by decide)) (by decide))]; exact Y61) | rw [show zI s64 rP = zI s54 rP from zput_Io hus64 ((hTo.k trP (by decide)).ne (hTo.k t_this (by decide)) (by decide))]
  have Y72 : zI s64 rF = zI σ0 rF := by first | (rw [show zI s64 rF = zI s54 rF from zput_Io hus64 ((hTo.k trF (by decide)).ne (hTo.k t_this (by decide)) (by decide))]; exact Y62) | rw [show zI s64 rF = zI s54 rF from zput_Io hus64 ((hTo.k trF (by decide)).ne (hTo.k t_this (by decide)) (by decide))]
  have e73 : zI s64 this 21 = 2 := zput_at hus64
  refine lv_aload_n hx hb dX6_load_35 rfl (lv_at hl 0 rfl) ?_
  refine lv_iconst (v := 1) hx hb dX6_load_36 (by decide) ?_
  have hTo := hT
  refine pf20_22 hx hb hg hown hK hT (hT.k t_this (by decide)) rfl (hg _ k1241) dX6_load_37 (fun H locs s74 hus74 hT => ?_)
  have ev1 : zI s74 this 13 = v1 := (zput_o hus74 (Or.inr (by decide))).trans ev1
  have ev2 : zI s74 this 7 = v2 := (zput_o hus74 (Or.inr (by decide))).trans ev2
  have ev3 : zI s74 this 8 = v3 := (zput_o hus74 (Or.inr (by decide))).trans ev3
  have e13 : zI s74 this 0 = 0 := (zput_o hus74 (Or.inr (by decide))).trans e13
  have e23 : zI s74 this 15 = 0 := (zput_o hus74 (Or.inr (by decide))).trans e23
  have e33 : zI s74 this 16 = (-1) := (zput_o hus74 (Or.inr (by decide))).trans e33
  have e43 : zI s74 this 18 = 0 := (zput_o hus74 (Or.inr (by decide))).trans e43
  have e53 : zI s74 this 19 = 2 := (zput_o hus74 (Or.inr (by decide))).trans e53
  have e63 : zI s74 this 20 = 0 := (zput_o hus74 (Or.inr (by decide))).trans e63
  have e73 : zI s74 this 21 = 2 := (zput_o hus74 (Or.inr (by decide))).trans e73
  have R75 : RI κ s74 this := R65.put hus74 (hTo.k t_this (by decide)) (by decide)
  have B76 := R75.b
  rw [erW] at B76
  have wv77 : zJ s74 rW 0 = zJ σ0 rW 0 := (congrFun (zput_J (x := rW) hus74) 0).trans wv67
  have wv78 : zJ s74 rW 1 = zJ σ0 rW 1 := (congrFun (zput_J (x := rW) hus74) 1).trans wv68
  have wv79 : zJ s74 rW 2 = zJ σ0 rW 2 := (congrFun (zput_J (x := rW) hus74) 2).trans wv69
  have Y80 : zI s74 rK = zI σ0 rK := by first | (rw [show zI s74 rK = zI s64 rK from zput_Io hus74 ((hTo.k trK (by decide)).ne (hTo.k t_this (by decide)) (by decide))]; exact Y70) | rw [show zI s74 rK = zI s64 rK from zput_Io hus74 ((hTo.k trK (by decide)).ne (hTo.k t_this (by decide)) (by decide))]
  have Y81 : zI s74 rP = zI σ0 rP := by first | (rw [show zI s74 rP = zI s64 rP from zput_Io hus74 ((hTo.k trP (by decide)).ne (hTo.k t_this (by decide)) (by decide))]; exact Y71) | rw [show zI s74 rP = zI s64 rP from zput_Io hus74 ((hTo.k trP (by decide)).ne (hTo.k t_this (by decide)) (by decide))]
  have Y82 : zI s74 rF = zI σ0 rF := by first | (rw [show zI s74 rF = zI s64 rF from zput_Io hus74 ((hTo.k trF (by decide)).ne (hTo.k t_this (by decide)) (by decide))]; exact Y72) | rw [show zI s74 rF = zI s64 rF from zput_Io hus74 ((hTo.k trF (by decide)).ne (hTo.k t_this (by decide)) (by decide))]
  have e83 : zI s74 this 22 = 1 := zput_at hus74
  refine lv_aload_n hx hb dX6_load_40 rfl (lv_at hl 0 rfl) ?_
  refine lv_iconst (v := 0) hx hb dX6_load_41 (by decide) ?_
  have hTo := hT
  refine pf20_23 hx hb hg hown hK hT (hT.k t_this (by decide)) rfl (hg _ k1242) dX6_load_42 (fun H locs s84 hus84 hT => ?_)
  have ev1 : zI s84 this 13 = v1 := (zput_o hus84 (Or.inr (by decide))).trans ev1
  have ev2 : zI s84 this 7 = v2 := (zput_o hus84 (Or.inr (by decide))).trans ev2
  have ev3 : zI s84 this 8 = v3 := (zput_o hus84 (Or.inr (by decide))).trans ev3
  have e13 : zI s84 this 0 = 0 := (zput_o hus84 (Or.inr (by decide))).trans e13
  have e23 : zI s84 this 15 = 0 := (zput_o hus84 (Or.inr (by decide))).trans e23
  have e33 : zI s84 this 16 = (-1) := (zput_o hus84 (Or.inr (by decide))).trans e33
  have e43 : zI s84 this 18 = 0 := (zput_o hus84 (Or.inr (by decide))).trans e43
  have e53 : zI s84 this 19 = 2 := (zput_o hus84 (Or.inr (by decide))).trans e53
  have e63 : zI s84 this 20 = 0 := (zput_o hus84 (Or.inr (by decide))).trans e63
  have e73 : zI s84 this 21 = 2 := (zput_o hus84 (Or.inr (by decide))).trans e73
  have e83 : zI s84 this 22 = 1 := (zput_o hus84 (Or.inr (by decide))).trans e83
  have R85 : RI κ s84 this := R75.put hus84 (hTo.k t_this (by decide)) (by decide)
  have B86 := R85.b
  rw [erW] at B86
  have wv87 : zJ s84 rW 0 = zJ σ0 rW 0 := (congrFun (zput_J (x := rW) hus84) 0).trans wv77
  have wv88 : zJ s84 rW 1 = zJ σ0 rW 1 := (congrFun (zput_J (x := rW) hus84) 1).trans wv78
  have wv89 : zJ s84 rW 2 = zJ σ0 rW 2 := (congrFun (zput_J (x := rW) hus84) 2).trans wv79
  have Y90 : zI s84 rK = zI σ0 rK := by first | (rw [show zI s84 rK = zI s74 rK from zput_Io hus84 ((hTo.k trK (by decide)).ne (hTo.k t_this (by decide)) (by decide))]; exact Y80) | rw [show zI s84 rK = zI s74 rK from zput_Io hus84 ((hTo.k trK (by decide)).ne (hTo.k t_this (by decide)) (by decide))]
  have Y91 : zI s84 rP = zI σ0 rP := by first | (rw [show zI s84 rP = zI s74 rP from zput_Io hus84 ((hTo.k trP (by decide)).ne (hTo.k t_this (by decide)) (by decide))]; exact Y81) | rw [show zI s84 rP = zI s74 rP from zput_Io hus84 ((hTo.k trP (by decide)).ne (hTo.k t_this (by decide)) (by decide))]
  have Y92 : zI s84 rF = zI σ0 rF := by first | (rw [show zI s84 rF = zI s74 rF from zput_Io hus84 ((hTo.k trF (by decide)).ne (hTo.k t_this (by decide)) (by decide))]; exact Y82) | rw [show zI s84 rF = zI s74 rF from zput_Io hus84 ((hTo.k trF (by decide)).ne (hTo.k t_this (by decide)) (by decide))]
  have e93 : zI s84 this 23 = 0 := zput_at hus84
  refine lv_aload_n hx hb dX6_load_45 rfl (lv_at hl 0 rfl) ?_
  refine lv_iconst (v := 0) hx hb dX6_load_46 (by decide) ?_
  have hTo := hT
  refine pf20_14 hx hb hg hown hK hT (hT.k t_this (by decide)) rfl (hg _ k1233) dX6_load_47 (fun H locs s94 hus94 hT => ?_)
  have ev1 : zI s94 this 13 = v1 := (zput_o hus94 (Or.inr (by decide))).trans ev1
  have ev2 : zI s94 this 7 = v2 := (zput_o hus94 (Or.inr (by decide))).trans ev2
  have ev3 : zI s94 this 8 = v3 := (zput_o hus94 (Or.inr (by decide))).trans ev3
  have e13 : zI s94 this 0 = 0 := (zput_o hus94 (Or.inr (by decide))).trans e13
  have e23 : zI s94 this 15 = 0 := (zput_o hus94 (Or.inr (by decide))).trans e23
  have e33 : zI s94 this 16 = (-1) := (zput_o hus94 (Or.inr (by decide))).trans e33
  have e43 : zI s94 this 18 = 0 := (zput_o hus94 (Or.inr (by decide))).trans e43
  have e53 : zI s94 this 19 = 2 := (zput_o hus94 (Or.inr (by decide))).trans e53
  have e63 : zI s94 this 20 = 0 := (zput_o hus94 (Or.inr (by decide))).trans e63
  have e73 : zI s94 this 21 = 2 := (zput_o hus94 (Or.inr (by decide))).trans e73
  have e83 : zI s94 this 22 = 1 := (zput_o hus94 (Or.inr (by decide))).trans e83
  have e93 : zI s94 this 23 = 0 := (zput_o hus94 (Or.inr (by decide))).trans e93
  have R95 : RI κ s94 this := R85.put hus94 (hTo.k t_this (by decide)) (by decide)
  have B96 := R95.b
  rw [erW] at B96
  have wv97 : zJ s94 rW 0 = zJ σ0 rW 0 := (congrFun (zput_J (x := rW) hus94) 0).trans wv87
  have wv98 : zJ s94 rW 1 = zJ σ0 rW 1 := (congrFun (zput_J (x := rW) hus94) 1).trans wv88
  have wv99 : zJ s94 rW 2 = zJ σ0 rW 2 := (congrFun (zput_J (x := rW) hus94) 2).trans wv89
  have Y100 : zI s94 rK = zI σ0 rK := by first | (rw [show zI s94 rK = zI s84 rK from zput_Io hus94 ((hTo.k trK (by decide)).ne (hTo.k t_this (by decide)) (by decide))]; exact Y90) | rw [show zI s94 rK = zI s84 rK from zput_Io hus94 ((hTo.k trK (by decide)).ne (hTo.k t_this (by decide)) (by decide))]
  have Y101 : zI s94 rP = zI σ0 rP := by first | (rw [show zI s94 rP = zI s84 rP from zput_Io hus94 ((hTo.k trP (by decide)).ne (hTo.k t_this (by decide)) (by decide))]; exact Y91) | rw [show zI s94 rP = zI s84 rP from zput_Io hus94 ((hTo.k trP (by decide)).ne (hTo.k t_this (by decide)) (by decide))]
  have Y102 : zI s94 rF = zI σ0 rF := by first | (rw [show zI s94 rF = zI s84 rF from zput_Io hus94 ((hTo.k trF (by decide)).ne (hTo.k t_this (by decide)) (by decide))]; exact Y92) | rw [show zI s94 rF = zI s84 rF from zput_Io hus94 ((hTo.k trF (by decide)).ne (hTo.k t_this (by decide)) (by decide))]
  have e103 : zI s94 this 14 = 0 := zput_at hus94
  refine lv_aload_n hx hb dX6_load_50 rfl (lv_at hl 0 rfl) ?_
  refine lv_iconst (v := 0) hx hb dX6_load_51 (by decide) ?_
  have hTo := hT
  refine pf20_17 hx hb hg hown hK hT (hT.k t_this (by decide)) rfl isB0 (hg _ k1236) dX6_load_52 (fun H locs s104 hus104 hT => ?_)
  have ev1 : zI s104 this 13 = v1 := (zput_o hus104 (Or.inr (by decide))).trans ev1
  have ev2 : zI s104 this 7 = v2 := (zput_o hus104 (Or.inr (by decide))).trans ev2
  have ev3 : zI s104 this 8 = v3 := (zput_o hus104 (Or.inr (by decide))).trans ev3
  have e13 : zI s104 this 0 = 0 := (zput_o hus104 (Or.inr (by decide))).trans e13
  have e23 : zI s104 this 15 = 0 := (zput_o hus104 (Or.inr (by decide))).trans e23
  have e33 : zI s104 this 16 = (-1) := (zput_o hus104 (Or.inr (by decide))).trans e33
  have e43 : zI s104 this 18 = 0 := (zput_o hus104 (Or.inr (by decide))).trans e43
  have e53 : zI s104 this 19 = 2 := (zput_o hus104 (Or.inr (by decide))).trans e53
  have e63 : zI s104 this 20 = 0 := (zput_o hus104 (Or.inr (by decide))).trans e63
  have e73 : zI s104 this 21 = 2 := (zput_o hus104 (Or.inr (by decide))).trans e73
  have e83 : zI s104 this 22 = 1 := (zput_o hus104 (Or.inr (by decide))).trans e83
  have e93 : zI s104 this 23 = 0 := (zput_o hus104 (Or.inr (by decide))).trans e93
  have e103 : zI s104 this 14 = 0 := (zput_o hus104 (Or.inr (by decide))).trans e103
  have R105 : RI κ s104 this := R95.put hus104 (hTo.k t_this (by decide)) (by decide)
  have B106 := R105.b
  rw [erW] at B106
  have wv107 : zJ s104 rW 0 = zJ σ0 rW 0 := (congrFun (zput_J (x := rW) hus104) 0).trans wv97
  have wv108 : zJ s104 rW 1 = zJ σ0 rW 1 := (congrFun (zput_J (x := rW) hus104) 1).trans wv98
  have wv109 : zJ s104 rW 2 = zJ σ0 rW 2 := (congrFun (zput_J (x := rW) hus104) 2).trans wv99
  have Y110 : zI s104 rK = zI σ0 rK := by first | (rw [show zI s104 rK = zI s94 rK from zput_Io hus104 ((hTo.k trK (by decide)).ne (hTo.k t_this (by decide)) (by decide))]; exact Y100) | rw [show zI s104 rK = zI s94 rK from zput_Io hus104 ((hTo.k trK (by decide)).ne (hTo.k t_this (by decide)) (by decide))]
  have Y111 : zI s104 rP = zI σ0 rP := by first | (rw [show zI s104 rP = zI s94 rP from zput_Io hus104 ((hTo.k trP (by decide)).ne (hTo.k t_this (by decide)) (by decide))]; exact Y101) | rw [show zI s104 rP = zI s94 rP from zput_Io hus104 ((hTo.k trP (by decide)).ne (hTo.k t_this (by decide)) (by decide))]
  have Y112 : zI s104 rF = zI σ0 rF := by first | (rw [show zI s104 rF = zI s94 rF from zput_Io hus104 ((hTo.k trF (by decide)).ne (hTo.k t_this (by decide)) (by decide))]; exact Y102) | rw [show zI s104 rF = zI s94 rF from zput_Io hus104 ((hTo.k trF (by decide)).ne (hTo.k t_this (by decide)) (by decide))]
  have e113 : zI s104 this 17 = 0 := zput_at hus104
  refine lv_aload_n hx hb dX6_load_55 rfl (lv_at hl 0 rfl) ?_
  have cz114 : zI s104 this 15 = 0 := e23
  have cz115 : zI s104 this 16 = (-1) := e33
  have hTo := hT
  refine tVv (n := 0) (As := []) (rest := []) hx hb hml hown hg hT hK hX (X6s_reads l κ s104 this  (hT.k t_this (by decide)) (hTX.tr (funext fun k => by rw [erT]; exact hT.eI trT (by decide) rfl rfl) ((show zI s104 this 13 = v1 from ev1).trans zthis13.symm)) (show (zI s104 this 17).toInt = 0 from by rw [(show zI s104 this 17 = 0 from e113)]; omega) (show (zI s104 this 14).toInt = 0 from by rw [(show zI s104 this 14 = 0 from e103)]; exact n0) (show (zI s104 this 18).toInt = 0 from by rw [(show zI s104 this 18 = 0 from e43)]; exact n0) (show (zI s104 this 23).toInt = 0 from by rw [(show zI s104 this 23 = 0 from e93)]; exact n0) (show GSm s104 this ugs0 from ⟨by rw [(show zI s104 this 20 = 0 from e63)]; decide, by rw [(show zI s104 this 21 = 2 from e73)]; decide, by rw [(show zI s104 this 22 = 1 from e83)]; decide, by rw [(show zI s104 this 19 = 2 from e53)]; decide⟩)) sub_gS3_gLd (mwV k1328 k1330 k38 k92 k1331) ⟨rfl, by decide, by decide, by decide +kernel⟩ ⟨(Nat.le_of_ble_eq_true rfl), (Nat.le_of_ble_eq_true rfl)⟩ (hT.o20 (hT.k t_this (by decide))) rfl rfl hl.1 rfl (Nat.le_of_ble_eq_true rfl) dX6_load_56 zroom.rf (fun s117 H locs hφ hEs117 hT => ?_)
  have ev1 : zI s117 this 13 = v1 := ((hTo.k t_this (by decide)).eI hEs117 (by decide) rfl).trans ev1
  have ev2 : zI s117 this 7 = v2 := ((hTo.k t_this (by decide)).eI hEs117 (by decide) rfl).trans ev2
  have ev3 : zI s117 this 8 = v3 := ((hTo.k t_this (by decide)).eI hEs117 (by decide) rfl).trans ev3
  have e13 : zI s117 this 0 = 0 := ((hTo.k t_this (by decide)).eI hEs117 (by decide) rfl).trans e13
  have R118 : RI κ s117 this := R105.ext hEs117 ⟨rfl, rfl, fun _ => rfl, fun _ => rfl, fun _ => rfl, fun _ => rfl⟩
  have B119 := R118.b
  rw [erW] at B119
  have wv120 : zJ s117 rW 0 = zJ σ0 rW 0 := ((hTo.k trW (by decide)).eJ hEs117 (by decide) rfl).trans wv107
  have wv121 : zJ s117 rW 1 = zJ σ0 rW 1 := ((hTo.k trW (by decide)).eJ hEs117 (by decide) rfl).trans wv108
  have wv122 : zJ s117 rW 2 = zJ σ0 rW 2 := ((hTo.k trW (by decide)).eJ hEs117 (by decide) rfl).trans wv109
  have Y123 : zI s117 rK = zI σ0 rK := by first | (rw [show zI s117 rK = zI s104 rK from funext fun k => (hTo.k trK (by decide)).eI hEs117 (by decide) rfl]; exact Y110) | rw [show zI s117 rK = zI s104 rK from funext fun k => (hTo.k trK (by decide)).eI hEs117 (by decide) rfl]
  have Y124 : zI s117 rP = zI σ0 rP := by first | (rw [show zI s117 rP = zI s104 rP from funext fun k => (hTo.k trP (by decide)).eI hEs117 (by decide) rfl]; exact Y111) | rw [show zI s117 rP = zI s104 rP from funext fun k => (hTo.k trP (by decide)).eI hEs117 (by decide) rfl]
  have Y125 : zI s117 rF = zI σ0 rF := by first | (rw [show zI s117 rF = zI s104 rF from funext fun k => (hTo.k trF (by decide)).eI hEs117 (by decide) rfl]; exact Y112) | rw [show zI s117 rF = zI s104 rF from funext fun k => (hTo.k trF (by decide)).eI hEs117 (by decide) rfl]
  obtain ⟨f126, f127, f128⟩ := hφ
  try simp only [erW, erP, ix_0, ix_1, ix_2, ix_3, ix_4, ix_5, ix_6, ix_7, ix_8, ix_9] at f126
  try simp only [erW, erP, ix_0, ix_1, ix_2, ix_3, ix_4, ix_5, ix_6, ix_7, ix_8, ix_9] at f127
  try simp only [erW, erP, ix_0, ix_1, ix_2, ix_3, ix_4, ix_5, ix_6, ix_7, ix_8, ix_9] at f128
  obtain ⟨x9, co, po, rds9, f128⟩ := f128
  rcases f128 with ⟨a1, a2, a3, a4, a5, a6, a7, a8, a9⟩ | ⟨a1, a2, a3, a4⟩
  · skip
    obtain ⟨v129, ev129⟩ : ∃ zz9 : Int32, zI s117 this 17 = zz9 := ⟨_, rfl⟩
    have qv129 : v129.toInt = (zI s117 this 17).toInt := by rw [ev129]
    have b130 : isB v129 := by have q9 : isB (zI s117 this 17) := hT.P (hT.k t_this (by decide)) (by decide); rw [ev129] at q9; exact q9
    have b130t := isB_t b130
    rw [(show zI s117 this 17 = v129 from ev129)] at a1
    obtain ⟨v131, ev131⟩ : ∃ zz9 : Int32, zI s117 this 18 = zz9 := ⟨_, rfl⟩
    have qv131 : v131.toInt = (zI s117 this 18).toInt := by rw [ev131]
    rw [(show zI s117 this 18 = v131 from ev131)] at a3
    obtain ⟨v132, ev132⟩ : ∃ zz9 : Int32, zI s117 this 20 = zz9 := ⟨_, rfl⟩
    have qv132 : v132.toInt = (zI s117 this 20).toInt := by rw [ev132]
    obtain ⟨v133, ev133⟩ : ∃ zz9 : Int32, zI s117 this 21 = zz9 := ⟨_, rfl⟩
    have qv133 : v133.toInt = (zI s117 this 21).toInt := by rw [ev133]
    obtain ⟨v134, ev134⟩ : ∃ zz9 : Int32, zI s117 this 22 = zz9 := ⟨_, rfl⟩
    have qv134 : v134.toInt = (zI s117 this 22).toInt := by rw [ev134]
    obtain ⟨v135, ev135⟩ : ∃ zz9 : Int32, zI s117 this 19 = zz9 := ⟨_, rfl⟩
    have qv135 : v135.toInt = (zI s117 this 19).toInt := by rw [ev135]
    have gm136 : v132.toInt = x9.2.2.2.2 0 ∧ v133.toInt = x9.2.2.2.2 1 ∧ v134.toInt = x9.2.2.2.2 2 ∧ v135.toInt = x9.2.2.2.2 3 := by have z9 := a4; unfold GSm at z9; rw [(show zI s117 this 20 = v132 from ev132), (show zI s117 this 21 = v133 from ev133), (show zI s117 this 22 = v134 from ev134), (show zI s117 this 19 = v135 from ev135)] at z9; exact z9
    rw [erQ] at a7
    rw [erV] at a8
    obtain ⟨v137, ev137⟩ : ∃ zz9 : Int32, zI s117 this 15 = zz9 := ⟨_, rfl⟩
    have qv137 : v137.toInt = (zI s117 this 15).toInt := by rw [ev137]
    have E138 : v137.toInt = 0 := by rw [show v137 = (0 : Int32) from ev137.symm.trans (a5.trans cz114)]; exact n0
    obtain ⟨v139, ev139⟩ : ∃ zz9 : Int32, zI s117 this 16 = zz9 := ⟨_, rfl⟩
    have qv139 : v139.toInt = (zI s117 this 16).toInt := by rw [ev139]
    have E140 : v139.toInt = -1 := by rw [show v139 = (-1 : Int32) from ev139.symm.trans (a6.trans cz115)]; exact nm1
    refine lv_aload_n hx hb dX6_load_59 rfl (lv_at hl 0 rfl) ?_
    refine lv_iconst (v := 0) hx hb dX6_load_60 (by decide) ?_
    have hTo := hT
    refine pf20_13 hx hb hg hown hK hT (hT.k t_this (by decide)) rfl (hg _ k1232) dX6_load_61 (fun H locs s141 hus141 hT => ?_)
    have ev2 : zI s141 this 7 = v2 := (zput_o hus141 (Or.inr (by decide))).trans ev2
    have ev3 : zI s141 this 8 = v3 := (zput_o hus141 (Or.inr (by decide))).trans ev3
    have e13 : zI s141 this 0 = 0 := (zput_o hus141 (Or.inr (by decide))).trans e13
    have ev129 : zI s141 this 17 = v129 := (zput_o hus141 (Or.inr (by decide))).trans ev129
    have ev131 : zI s141 this 18 = v131 := (zput_o hus141 (Or.inr (by decide))).trans ev131
    have ev132 : zI s141 this 20 = v132 := (zput_o hus141 (Or.inr (by decide))).trans ev132
    have ev133 : zI s141 this 21 = v133 := (zput_o hus141 (Or.inr (by decide))).trans ev133
    have ev134 : zI s141 this 22 = v134 := (zput_o hus141 (Or.inr (by decide))).trans ev134
    have ev135 : zI s141 this 19 = v135 := (zput_o hus141 (Or.inr (by decide))).trans ev135
    have ev137 : zI s141 this 15 = v137 := (zput_o hus141 (Or.inr (by decide))).trans ev137
    have ev139 : zI s141 this 16 = v139 := (zput_o hus141 (Or.inr (by decide))).trans ev139
    have R142 : RI κ s141 this := R118.putL hus141 ⟨by omega, by omega⟩
    have B143 := R142.b
    rw [erW] at B143
    have wv144 : zJ s141 rW 0 = zJ σ0 rW 0 := (congrFun (zput_J (x := rW) hus141) 0).trans wv120
    have wv145 : zJ s141 rW 1 = zJ σ0 rW 1 := (congrFun (zput_J (x := rW) hus141) 1).trans wv121
    have wv146 : zJ s141 rW 2 = zJ σ0 rW 2 := (congrFun (zput_J (x := rW) hus141) 2).trans wv122
    have Y147 : zI s141 rK = zI σ0 rK := by first | (rw [show zI s141 rK = zI s117 rK from zput_Io hus141 ((hTo.k trK (by decide)).ne (hTo.k t_this (by decide)) (by decide))]; exact Y123) | rw [show zI s141 rK = zI s117 rK from zput_Io hus141 ((hTo.k trK (by decide)).ne (hTo.k t_this (by decide)) (by decide))]
    have Y148 : zI s141 rP = zI σ0 rP := by first | (rw [show zI s141 rP = zI s117 rP from zput_Io hus141 ((hTo.k trP (by decide)).ne (hTo.k t_this (by decide)) (by decide))]; exact Y124) | rw [show zI s141 rP = zI s117 rP from zput_Io hus141 ((hTo.k trP (by decide)).ne (hTo.k t_this (by decide)) (by decide))]
    have Y149 : zI s141 rF = zI σ0 rF := by first | (rw [show zI s141 rF = zI s117 rF from zput_Io hus141 ((hTo.k trF (by decide)).ne (hTo.k t_this (by decide)) (by decide))]; exact Y125) | rw [show zI s141 rF = zI s117 rF from zput_Io hus141 ((hTo.k trF (by decide)).ne (hTo.k t_this (by decide)) (by decide))]
    have Y150 : usP (zI s141 rQ) po.toNat x9.2.2.2.2 := by first | (rw [show zI s141 rQ = zI s117 rQ from zput_Io hus141 ((hTo.k trQ (by decide)).ne (hTo.k t_this (by decide)) (by decide))]; exact a7) | rw [show zI s141 rQ = zI s117 rQ from zput_Io hus141 ((hTo.k trQ (by decide)).ne (hTo.k t_this (by decide)) (by decide))]
    have Y151 : usO (zI s141 rV) po.toNat x9.2.2.2.2 := by first | (rw [show zI s141 rV = zI s117 rV from zput_Io hus141 ((hTo.k trV (by decide)).ne (hTo.k t_this (by decide)) (by decide))]; exact a8) | rw [show zI s141 rV = zI s117 rV from zput_Io hus141 ((hTo.k trV (by decide)).ne (hTo.k t_this (by decide)) (by decide))]
    have e152 : zI s141 this 13 = 0 := zput_at hus141
    refine lv_aload_n hx hb dX6_load_64 rfl (lv_at hl 0 rfl) ?_
    refine va_get (D := κ.1) (ci := 6) (v := .int (zI s141 this 17)) (C := RX6) (T := TX6) (N := 27) hx hb hg inX6 hown hK (hT.o20 (hT.k t_this (by decide))).one 0 rfl rfl 17 (by decide) (hg _ k1236) (fun _ h9 => h9) rfl dX6_load_65 ?_
    rw [ev129]
    refine lv_if_eq (tgt := 77) hx hb dX6_load_68 (by decide) (fun _ => ?_) (fun c9 => absurd (gi_ne c9) (by omega))
    refine lv_aload_n hx hb dX6_load_77 rfl (lv_at hl 0 rfl) ?_
    have cz153 : zI s141 this 18 = v131 := ev131
    have cz154 : zI s141 this 19 = v135 := ev135
    have cz155 : zI s141 this 20 = v132 := ev132
    have cz156 : zI s141 this 21 = v133 := ev133
    have cz157 : zI s141 this 22 = v134 := ev134
    have qq158 : (zI s141 this 18).toInt = v131.toInt := by rw [ev131]
    have qq159 : (zI s141 this 19).toInt = v135.toInt := by rw [ev135]
    have hTo := hT
    refine tVv (n := 0) (As := []) (rest := []) hx hb hml hown hg hT hK hX (X6s_takesText l κ s141 this  (hT.k t_this (by decide)) (by omega) (by omega) (by omega) (by omega) (by rw [erQ, zput_o hus141 (Or.inr (by decide)), zput_Io (x := rQ) hus141 ((hTo.k trQ (by decide)).ne (hTo.k t_this (by decide)) (by decide))]; have z9 := f127; rw [erQ] at z9; exact z9.resolve_left (by omega))) sub_gTT_gLd (mwV k1210 k1212 k34 k92 k1213) ⟨rfl, by decide, by decide, by decide +kernel⟩ ⟨(Nat.le_of_ble_eq_true rfl), (Nat.le_of_ble_eq_true rfl)⟩ (hT.o20 (hT.k t_this (by decide))) rfl rfl hl.1 rfl (Nat.le_of_ble_eq_true rfl) dX6_load_78 zroom.rf (fun s161 H locs hφ hEs161 hT => ?_)
    have e13 : zI s161 this 0 = 0 := ((hTo.k t_this (by decide)).eI hEs161 (by decide) rfl).trans e13
    have ev129 : zI s161 this 17 = v129 := ((hTo.k t_this (by decide)).eI hEs161 (by decide) rfl).trans ev129
    have ev131 : zI s161 this 18 = v131 := ((hTo.k t_this (by decide)).eI hEs161 (by decide) rfl).trans ev131
    have ev132 : zI s161 this 20 = v132 := ((hTo.k t_this (by decide)).eI hEs161 (by decide) rfl).trans ev132
    have ev133 : zI s161 this 21 = v133 := ((hTo.k t_this (by decide)).eI hEs161 (by decide) rfl).trans ev133
    have ev134 : zI s161 this 22 = v134 := ((hTo.k t_this (by decide)).eI hEs161 (by decide) rfl).trans ev134
    have ev135 : zI s161 this 19 = v135 := ((hTo.k t_this (by decide)).eI hEs161 (by decide) rfl).trans ev135
    have ev137 : zI s161 this 15 = v137 := ((hTo.k t_this (by decide)).eI hEs161 (by decide) rfl).trans ev137
    have ev139 : zI s161 this 16 = v139 := ((hTo.k t_this (by decide)).eI hEs161 (by decide) rfl).trans ev139
    have e152 : zI s161 this 13 = 0 := ((hTo.k t_this (by decide)).eI hEs161 (by decide) rfl).trans e152
    have Y163 : usP (zI s161 rQ) po.toNat x9.2.2.2.2 := by first | (rw [show zI s161 rQ = zI s141 rQ from funext fun k => (hTo.k trQ (by decide)).eI hEs161 (by decide) rfl]; exact Y150) | rw [show zI s161 rQ = zI s141 rQ from funext fun k => (hTo.k trQ (by decide)).eI hEs161 (by decide) rfl]
    have Y164 : usO (zI s161 rV) po.toNat x9.2.2.2.2 := by first | (rw [show zI s161 rV = zI s141 rV from funext fun k => (hTo.k trV (by decide)).eI hEs161 (by decide) rfl]; exact Y151) | rw [show zI s161 rV = zI s141 rV from funext fun k => (hTo.k trV (by decide)).eI hEs161 (by decide) rfl]
    obtain ⟨f165, f166, f167, f168, f169, f170, f171, f172, f173, f174⟩ := hφ
    have B175 := f165.b
    rw [erW] at B175
    try simp only [erW, erP, ix_0, ix_1, ix_2, ix_3, ix_4, ix_5, ix_6, ix_7, ix_8, ix_9] at f166
    try simp only [erW, erP, ix_0, ix_1, ix_2, ix_3, ix_4, ix_5, ix_6, ix_7, ix_8, ix_9] at f167
    try simp only [erW, erP, ix_0, ix_1, ix_2, ix_3, ix_4, ix_5, ix_6, ix_7, ix_8, ix_9] at f168
    try simp only [erW, erP, ix_0, ix_1, ix_2, ix_3, ix_4, ix_5, ix_6, ix_7, ix_8, ix_9] at f169
    try simp only [erW, erP, ix_0, ix_1, ix_2, ix_3, ix_4, ix_5, ix_6, ix_7, ix_8, ix_9] at f170
    try simp only [erW, erP, ix_0, ix_1, ix_2, ix_3, ix_4, ix_5, ix_6, ix_7, ix_8, ix_9] at f171
    try simp only [erW, erP, ix_0, ix_1, ix_2, ix_3, ix_4, ix_5, ix_6, ix_7, ix_8, ix_9] at f172
    try simp only [erW, erP, ix_0, ix_1, ix_2, ix_3, ix_4, ix_5, ix_6, ix_7, ix_8, ix_9] at f173
    try simp only [erW, erP, ix_0, ix_1, ix_2, ix_3, ix_4, ix_5, ix_6, ix_7, ix_8, ix_9] at f174
    obtain ⟨v176, ev176⟩ : ∃ zz9 : Int32, zI s161 this 7 = zz9 := ⟨_, rfl⟩
    have qv176 : v176.toInt = (zI s161 this 7).toInt := by rw [ev176]
    rw [(show zI s161 this 7 = v176 from ev176)] at f168
    rw [cz153] at f168
    rw [erK] at f166 f167
    have hr9 : v176.toInt = po := by rw [f168]; exact a3
    have hw0 : (zJ s161 rW 0).toInt = x9.2.2.2.2 0 := by have z9 := f169; (try rw [erW] at z9); rw [z9, cz155]; exact gm136.1
    have hw1 : (zJ s161 rW 1).toInt = x9.2.2.2.2 1 := by have z9 := f170; (try rw [erW] at z9); rw [z9, cz156]; exact gm136.2.1
    have hw2 : (zJ s161 rW 2).toInt = x9.2.2.2.2 2 := by have z9 := f171; (try rw [erW] at z9); rw [z9, cz157]; exact gm136.2.2.1
    obtain ⟨v177, ev177⟩ : ∃ zz9 : Int32, zI s161 this 8 = zz9 := ⟨_, rfl⟩
    have qv177 : v177.toInt = (zI s161 this 8).toInt := by rw [ev177]
    have hl9 : v177.toInt = x9.2.2.2.2 3 := by rw [← (show zI s161 this 8 = v177 from ev177), f172, cz154]; exact gm136.2.2.2
    rw [erP, erQ, cz153] at f173
    rw [erF, erV, cz153] at f174
    have vP9 : usP (zI s161 rP) po.toNat x9.2.2.2.2 := Y150.cg (fun j hj => f173 j (by omega))
    have vO9 : usO (zI s161 rF) po.toNat x9.2.2.2.2 := Y151.cg (fun j hj => f174 j (by omega))
    refine lv_aload_n hx hb dX6_load_81 rfl (lv_at hl 0 rfl) ?_
    refine va_get (D := κ.1) (ci := 6) (v := .int (zI s161 this 7)) (C := RX6) (T := TX6) (N := 27) hx hb hg inX6 hown hK (hT.o20 (hT.k t_this (by decide))).one 0 rfl rfl 7 (by decide) (hg _ k1226) (fun _ h9 => h9) rfl dX6_load_82 ?_
    rw [ev176]
    subst hQ9
    exact t_i hx hb hr hlocks hT ⟨f165, by rw [(show zI s161 this 13 = 0 from e152)]; omega, x9, co, po, rds9, Or.inl ⟨by rw [(show zI s161 this 0 = 0 from e13)]; omega, a2, hr9, by rw [(show zI s161 this 15 = v137 from ev137)]; omega, by rw [(show zI s161 this 16 = v139 from ev139)]; omega, by rw [erK]; exact f166, by rw [erK]; exact f167, by rw [erW]; exact hw0, by rw [erW]; exact hw1, by rw [erW]; exact hw2, by rw [(show zI s161 this 7 = v176 from ev176)]; omega, by rw [(show zI s161 this 8 = v177 from ev177)]; exact hl9, by rw [erP]; exact vP9, by rw [erF]; exact vO9, a9⟩⟩ dX6_load_85
  · skip
    obtain ⟨v178, ev178⟩ : ∃ zz9 : Int32, zI s117 this 17 = zz9 := ⟨_, rfl⟩
    have qv178 : v178.toInt = (zI s117 this 17).toInt := by rw [ev178]
    have b179 : isB v178 := by have q9 : isB (zI s117 this 17) := hT.P (hT.k t_this (by decide)) (by decide); rw [ev178] at q9; exact q9
    have b179t := isB_t b179
    rw [(show zI s117 this 17 = v178 from ev178)] at a1
    obtain ⟨v180, ev180⟩ : ∃ zz9 : Int32, zI s117 this 15 = zz9 := ⟨_, rfl⟩
    have qv180 : v180.toInt = (zI s117 this 15).toInt := by rw [ev180]
    rw [(show zI s117 this 15 = v180 from ev180)] at a3
    obtain ⟨v181, ev181⟩ : ∃ zz9 : Int32, zI s117 this 16 = zz9 := ⟨_, rfl⟩
    have qv181 : v181.toInt = (zI s117 this 16).toInt := by rw [ev181]
    rw [(show zI s117 this 16 = v181 from ev181)] at a4
    refine lv_aload_n hx hb dX6_load_59 rfl (lv_at hl 0 rfl) ?_
    refine lv_iconst (v := 0) hx hb dX6_load_60 (by decide) ?_
    have hTo := hT
    refine pf20_13 hx hb hg hown hK hT (hT.k t_this (by decide)) rfl (hg _ k1232) dX6_load_61 (fun H locs s182 hus182 hT => ?_)
    have ev2 : zI s182 this 7 = v2 := (zput_o hus182 (Or.inr (by decide))).trans ev2
    have ev3 : zI s182 this 8 = v3 := (zput_o hus182 (Or.inr (by decide))).trans ev3
    have e13 : zI s182 this 0 = 0 := (zput_o hus182 (Or.inr (by decide))).trans e13
    have ev178 : zI s182 this 17 = v178 := (zput_o hus182 (Or.inr (by decide))).trans ev178
    have ev180 : zI s182 this 15 = v180 := (zput_o hus182 (Or.inr (by decide))).trans ev180
    have ev181 : zI s182 this 16 = v181 := (zput_o hus182 (Or.inr (by decide))).trans ev181
    have R183 : RI κ s182 this := R118.putL hus182 ⟨by omega, by omega⟩
    have B184 := R183.b
    rw [erW] at B184
    have wv185 : zJ s182 rW 0 = zJ σ0 rW 0 := (congrFun (zput_J (x := rW) hus182) 0).trans wv120
    have wv186 : zJ s182 rW 1 = zJ σ0 rW 1 := (congrFun (zput_J (x := rW) hus182) 1).trans wv121
    have wv187 : zJ s182 rW 2 = zJ σ0 rW 2 := (congrFun (zput_J (x := rW) hus182) 2).trans wv122
    have Y188 : zI s182 rK = zI σ0 rK := by first | (rw [show zI s182 rK = zI s117 rK from zput_Io hus182 ((hTo.k trK (by decide)).ne (hTo.k t_this (by decide)) (by decide))]; exact Y123) | rw [show zI s182 rK = zI s117 rK from zput_Io hus182 ((hTo.k trK (by decide)).ne (hTo.k t_this (by decide)) (by decide))]
    have Y189 : zI s182 rP = zI σ0 rP := by first | (rw [show zI s182 rP = zI s117 rP from zput_Io hus182 ((hTo.k trP (by decide)).ne (hTo.k t_this (by decide)) (by decide))]; exact Y124) | rw [show zI s182 rP = zI s117 rP from zput_Io hus182 ((hTo.k trP (by decide)).ne (hTo.k t_this (by decide)) (by decide))]
    have Y190 : zI s182 rF = zI σ0 rF := by first | (rw [show zI s182 rF = zI s117 rF from zput_Io hus182 ((hTo.k trF (by decide)).ne (hTo.k t_this (by decide)) (by decide))]; exact Y125) | rw [show zI s182 rF = zI s117 rF from zput_Io hus182 ((hTo.k trF (by decide)).ne (hTo.k t_this (by decide)) (by decide))]
    have e191 : zI s182 this 13 = 0 := zput_at hus182
    refine lv_aload_n hx hb dX6_load_64 rfl (lv_at hl 0 rfl) ?_
    refine va_get (D := κ.1) (ci := 6) (v := .int (zI s182 this 17)) (C := RX6) (T := TX6) (N := 27) hx hb hg inX6 hown hK (hT.o20 (hT.k t_this (by decide))).one 0 rfl rfl 17 (by decide) (hg _ k1236) (fun _ h9 => h9) rfl dX6_load_65 ?_
    rw [ev178]
    refine lv_if_eq (tgt := 77) hx hb dX6_load_68 (by decide) (fun c9 => absurd (gi_eq c9) (by omega)) (fun _ => ?_)
    refine lv_aload_n hx hb dX6_load_71 rfl (lv_at hl 0 rfl) ?_
    refine lv_iconst (v := 1) hx hb dX6_load_72 (by decide) ?_
    have hTo := hT
    refine tVi (n := 1) (As := [.int 1]) (rest := []) hx hb hml hown hg hT hK hX (X6s_fails l κ s182 this 1  (hT.k t_this (by decide)) R183) sub_gR_gLd (mwV k1320 k1322 k37 k92 k1323) ⟨rfl, by decide, by decide, by decide +kernel⟩ ⟨(Nat.le_of_ble_eq_true rfl), (Nat.le_of_ble_eq_true rfl)⟩ (hT.o20 (hT.k t_this (by decide))) rfl rfl hl.1 rfl (Nat.le_of_ble_eq_true rfl) dX6_load_73 zroom.rf (fun x192 s193 H locs hφ hEs193 hT => ?_)
    have ev2 : zI s193 this 7 = v2 := ((hTo.k t_this (by decide)).eI hEs193 (by decide) rfl).trans ev2
    have ev3 : zI s193 this 8 = v3 := ((hTo.k t_this (by decide)).eI hEs193 (by decide) rfl).trans ev3
    have ev178 : zI s193 this 17 = v178 := ((hTo.k t_this (by decide)).eI hEs193 (by decide) rfl).trans ev178
    have ev180 : zI s193 this 15 = v180 := ((hTo.k t_this (by decide)).eI hEs193 (by decide) rfl).trans ev180
    have ev181 : zI s193 this 16 = v181 := ((hTo.k t_this (by decide)).eI hEs193 (by decide) rfl).trans ev181
    have e191 : zI s193 this 13 = 0 := ((hTo.k t_this (by decide)).eI hEs193 (by decide) rfl).trans e191
    have R194 : RI κ s193 this := R183.ext hEs193 ⟨rfl, rfl, fun _ => rfl, fun _ => rfl, fun _ => rfl, fun _ => rfl⟩
    have B195 := R194.b
    rw [erW] at B195
    have wv196 : zJ s193 rW 0 = zJ σ0 rW 0 := ((hTo.k trW (by decide)).eJ hEs193 (by decide) rfl).trans wv185
    have wv197 : zJ s193 rW 1 = zJ σ0 rW 1 := ((hTo.k trW (by decide)).eJ hEs193 (by decide) rfl).trans wv186
    have wv198 : zJ s193 rW 2 = zJ σ0 rW 2 := ((hTo.k trW (by decide)).eJ hEs193 (by decide) rfl).trans wv187
    have Y199 : zI s193 rK = zI σ0 rK := by first | (rw [show zI s193 rK = zI s182 rK from funext fun k => (hTo.k trK (by decide)).eI hEs193 (by decide) rfl]; exact Y188) | rw [show zI s193 rK = zI s182 rK from funext fun k => (hTo.k trK (by decide)).eI hEs193 (by decide) rfl]
    have Y200 : zI s193 rP = zI σ0 rP := by first | (rw [show zI s193 rP = zI s182 rP from funext fun k => (hTo.k trP (by decide)).eI hEs193 (by decide) rfl]; exact Y189) | rw [show zI s193 rP = zI s182 rP from funext fun k => (hTo.k trP (by decide)).eI hEs193 (by decide) rfl]
    have Y201 : zI s193 rF = zI σ0 rF := by first | (rw [show zI s193 rF = zI s182 rF from funext fun k => (hTo.k trF (by decide)).eI hEs193 (by decide) rfl]; exact Y190) | rw [show zI s193 rF = zI s182 rF from funext fun k => (hTo.k trF (by decide)).eI hEs193 (by decide) rfl]
    obtain ⟨f202, f203⟩ := hφ
    try simp only [erW, erP, ix_0, ix_1, ix_2, ix_3, ix_4, ix_5, ix_6, ix_7, ix_8, ix_9] at f202
    try simp only [erW, erP, ix_0, ix_1, ix_2, ix_3, ix_4, ix_5, ix_6, ix_7, ix_8, ix_9] at f203
    obtain ⟨v204, ev204⟩ : ∃ zz9 : Int32, zI s193 this 0 = zz9 := ⟨_, rfl⟩
    have qv204 : v204.toInt = (zI s193 this 0).toInt := by rw [ev204]
    rw [(show zI s193 this 0 = v204 from ev204)] at f203
    subst hQ9
    exact t_i hx hb hr hlocks hT ⟨R194, by rw [(show zI s193 this 13 = 0 from e191)]; omega, x9, co, po, rds9, Or.inr ⟨by rw [(show zI s193 this 0 = v204 from ev204)]; omega, a2, by rw [(show zI s193 this 15 = v180 from ev180)]; exact a3, by rw [(show zI s193 this 16 = v181 from ev181)]; exact a4, by rw [erK]; exact Y199, by rw [erW]; exact (fun j hj => by rcases (show j = 0 ∨ j = 1 ∨ j = 2 by omega) with rfl | rfl | rfl <;> first | exact wv196 | exact wv197 | exact wv198), (show zI s193 this 7 = v2 from ev2).trans zthis7.symm, (show zI s193 this 8 = v3 from ev3).trans zthis8.symm, by rw [erP]; exact Y200, by rw [erF]; exact Y201⟩⟩ dX6_load_76
set_option maxHeartbeats 4000000 in
set_option maxRecDepth 100000 in
theorem X6s_save (l : Launch) (κ : Kt) (σ0 : Gh) (this : Nat) (sl : Int32) (t_this : zk σ0 this 20) (h0 : RI κ σ0 this) : TC l yX6_save cX6_save 3 none 1 25 [.ref this, .int sl] κ σ0 (tqv κ gS σ0 (fun (τ : Gh) => (RI κ τ this) ∧ ((0 ≤ sl.toInt ∧ sl.toInt ≤ 1 ∧ (∀ j : Nat, zI τ (kR κ this 4) j = if j = ix sl then 1 else zI σ0 (kR κ this 4) j) ∧ (∀ j : Nat, j < 3 → zJ τ (kR κ this 3) (609 * ix sl + j) = zJ σ0 (kR κ this 1) j) ∧ (∀ x : Nat, (x < 609 * ix sl ∨ 609 * ix sl + 609 ≤ x) → zJ τ (kR κ this 3) x = zJ σ0 (kR κ this 3) x)) ∨ ((sl.toInt < 0 ∨ 1 < sl.toInt) ∧ zI τ (kR κ this 4) = zI σ0 (kR κ this 4) ∧ zJ τ (kR κ this 3) = zJ σ0 (kR κ this 3))))) := by
  refine TC.of gS (by decide +kernel) (Nat.le_of_ble_eq_true rfl) ?_
  intro p e s m below meth c ls hcs hK hX hT hl
  obtain ⟨hx, hb, hr, hml, hown, hg, hlocks, hin⟩ := hcs
  have hown : s.vm.findClass RX6 = some m.cls := hown
  have hl : lv_has ls 3 [(0, .ref this), (1, .int sl)] := hl
  have hT0 := hT
  have n0 : (0 : Int32).toInt = 0 := by decide
  have n1 : (1 : Int32).toInt = 1 := by decide
  have n609 : (609 : Int32).toInt = 609 := by decide
  have j0 : (0 : Int64).toInt = 0 := by decide
  have j1 : (1 : Int64).toInt = 1 := by decide
  have sl_lo := Int32.le_toInt sl
  have sl_hi := Int32.toInt_lt sl
  generalize hQ9 : tQ _ _ _ _ _ _ = Q9
  obtain ⟨rW, erW⟩ : ∃ z, kR κ this 1 = z := ⟨_, rfl⟩
  have trW : zk σ0 rW 21 := by rw [← erW]; exact h0.1.2.1
  obtain ⟨rP, erP⟩ : ∃ z, kR κ this 5 = z := ⟨_, rfl⟩
  have trP : zk σ0 rP 25 := by rw [← erP]; exact h0.1.2.2.2.2
  have hB0 := h0.b
  rw [erW] at hB0
  have hW := h0.2.1
  rw [erW] at hW
  have hP := h0.2.2.1
  rw [erP] at hP
  have hrN : (rN σ0 this : Int) = (zI σ0 this 7).toInt := by unfold rN; omega
  obtain ⟨rS, erS⟩ : ∃ z, kR κ this 3 = z := ⟨_, rfl⟩
  have trS : zk σ0 rS 22 := by rw [← erS]; exact hT0.ref t_this (by decide) (by decide) (by decide)
  obtain ⟨rK, erK⟩ : ∃ z, kR κ this 4 = z := ⟨_, rfl⟩
  have trK : zk σ0 rK 29 := by rw [← erK]; exact hT0.ref t_this (by decide) (by decide) (by decide)
  refine lv_aload_n hx hb dX6_save_0 rfl (lv_at hl 0 rfl) ?_
  refine lv_iload_n hx hb dX6_save_1 rfl (lv_at hl 1 rfl) ?_
  refine lv_i2l hx hb dX6_save_2 rfl ?_
  refine g_i2l (fun t1 ht1 => ?_)
  refine lv_lconst (v := 0) hx hb dX6_save_3 (by decide) ?_
  refine lv_lconst (v := 1) hx hb dX6_save_4 (by decide) ?_
  have hTo := hT
  refine tSi (n := 3) (As := [.long t1, .long 0, .long 1]) (rest := [.ref this]) hx hb hml hown hg hT hK hX (X6_in l κ σ0 t1 0 1   ) sub_fE_gS (mwS k1317 k1318 k92 k1319) ⟨rfl, by decide, by decide, by decide +kernel⟩ ⟨(Nat.le_of_ble_eq_true rfl), (Nat.le_of_ble_eq_true rfl)⟩ rfl hl.1 rfl (Nat.le_of_ble_eq_true rfl) dX6_save_5 zroom.rf (fun x2 s3 H locs hφ hEs3 hT => ?_)
  have R4 : RI κ s3 this := h0.ext hEs3 ⟨rfl, rfl, fun _ => rfl, fun _ => rfl, fun _ => rfl, fun _ => rfl⟩
  have B5 := R4.b
  rw [erW] at B5
  have K6 : zI s3 this 7 = zI σ0 this 7 := hT.eI t_this (by decide) rfl rfl
  have K6n : (zI s3 this 7).toInt = (zI σ0 this 7).toInt := by rw [K6]
  have J7 : zJ s3 rW = zJ σ0 rW := funext fun k => hT.eJ trW (by decide) rfl rfl
  have J7n : (zJ s3 (kR κ this 1) 4).toInt = (zJ σ0 rW 4).toInt := by rw [erW, J7]
  have P8 : zI s3 rP = zI σ0 rP := funext fun k => hT.eI trP (by decide) rfl rfl
  try simp only [K6, J7, P8] at B5
  obtain ⟨f9, f10⟩ := hφ
  try simp only [erW, erP, ix_0, ix_1, ix_2, ix_3, ix_4, ix_5, ix_6, ix_7, ix_8, ix_9, K6, J7, P8] at f9
  refine lv_if_eq (tgt := 15) hx hb dX6_save_8 (by decide) (fun c9 => ?_) (fun c9 => ?_)
  · have c1 := gi_eq c9
    refine lv_iconst (v := 1) hx hb dX6_save_15 (by decide) ?_
    have jrS : zJ s3 rS = zJ σ0 rS := funext fun k => trS.eJ hEs3 (by decide) rfl
    have jrK : zI s3 rK = zI σ0 rK := funext fun k => trK.eI hEs3 (by decide) rfl
    have hTo := hT
    refine pf20_0 hx hb hg hown hK hT (hT.k t_this (by decide)) rfl (hg _ k1219) dX6_save_16 (fun H locs s11 hus11 hT => ?_)
    have R12 : RI κ s11 this := R4.put hus11 (hTo.k t_this (by decide)) (by decide)
    have B13 := R12.b
    rw [erW] at B13
    have K14 : zI s11 this 7 = zI σ0 this 7 := hT.eI t_this (by decide) rfl rfl
    have K14n : (zI s11 this 7).toInt = (zI σ0 this 7).toInt := by rw [K14]
    have J15 : zJ s11 rW = zJ σ0 rW := funext fun k => hT.eJ trW (by decide) rfl rfl
    have J15n : (zJ s11 (kR κ this 1) 4).toInt = (zJ σ0 rW 4).toInt := by rw [erW, J15]
    have P16 : zI s11 rP = zI σ0 rP := funext fun k => hT.eI trP (by decide) rfl rfl
    try simp only [K14, J15, P16] at B13
    have e17 : zI s11 this 0 = 1 := zput_at hus11
    refine lv_iconst (v := 0) hx hb dX6_save_19 (by decide) ?_
    refine lv_istore_n (lv' := [(2, .int 0), (0, .ref this), (1, .int sl)]) hx hb dX6_save_20 rfl hl (by decide) rfl (fun ls hl => ?_)
    have loop21 : ∀ (n9 : Nat) (k : Int32) (H : Heap) (locs : List Loc) (sg : Gh) (ls : Array Slot), TS κ gS σ0 sg s H locs → (zI sg this 0 = 1) → (0 ≤ k.toInt) → (k.toInt ≤ 609) → ((1 : Int32).toInt ≠ 0 ∨ (0 ≤ sl.toInt ∧ sl.toInt ≤ 1)) → (∀ j : Nat, j < ix k → zJ sg rS (609 * ix sl + j) = zJ σ0 rW j) → (∀ x : Nat, (x < 609 * ix sl ∨ 609 * ix sl + 609 ≤ x) → zJ sg rS x = zJ σ0 rS x) → ((1 : Int32).toInt ≠ 0 → zJ sg rS = zJ σ0 rS) → (zI sg rK = zI σ0 rK) → lv_has ls 3 [(2, .int k), (0, .ref this), (1, .int sl)] → (609 - k.toInt) < n9 → tW p l e 1 25 κ s m #[.ref this, .int sl] below meth c H locs Q9 (F0 m 21 ls []) := by
      intro n9
      induction n9 with
      | zero =>
        intro k H locs sg ls hT kthis_0 q1 q2 q0 q3 q4 q6 q7 hl hm9
        exfalso
        omega
      | succ n9 ih9 =>
        have ih21 := ih9
        clear ih9
        intro k H locs s18 ls hT kthis_0 q1 q2 q0 q3 q4 q6 q7 hl hm9
        have i_k : (ix k : Int) = k.toInt := by unfold ix; omega
        refine lv_aload_n hx hb dX6_save_21 rfl (lv_at hl 1 rfl) ?_
        refine va_get (D := κ.1) (ci := 6) (v := .int (zI s18 this 0)) (C := RX6) (T := TX6) (N := 27) hx hb hg inX6 hown hK (hT.o20 (hT.k t_this (by decide))).one 0 rfl rfl 0 (by decide) (hg _ k1219) (fun _ h9 => h9) rfl dX6_save_22 ?_
        rw [kthis_0]
        refine lv_if_ne (tgt := 59) hx hb dX6_save_25 (by decide) (fun _ => ?_) (fun c9 => absurd c9 (by decide))
        refine lv_aload_n hx hb dX6_save_59 rfl (lv_at hl 1 rfl) ?_
        refine va_get (D := κ.1) (ci := 6) (v := .int (zI s18 this 0)) (C := RX6) (T := TX6) (N := 27) hx hb hg inX6 hown hK (hT.o20 (hT.k t_this (by decide))).one 0 rfl rfl 0 (by decide) (hg _ k1219) (fun _ h9 => h9) rfl dX6_save_60 ?_
        rw [kthis_0]
        refine lv_if_ne (tgt := 73) hx hb dX6_save_63 (by decide) (fun _ => ?_) (fun c9 => absurd c9 (by decide))
        subst hQ9
        exact t_v hx hb hr hlocks hT ⟨(h0.slots hT.2.2.1 ⟨rfl, rfl, fun _ => rfl, fun _ => rfl⟩ (fun i hi hz => by rw [erK, q7, ← erK] at hz; have z9 := h0.2.2.2.2 i hi hz; rw [erS] at z9 ⊢; rw [q6 (by omega)]; exact z9)), Or.inr ⟨by omega, by rw [erK]; exact q7, by rw [erS]; exact q6 (by omega)⟩⟩ dX6_save_73
    exact loop21 ((609 - (0 : Int32).toInt).toNat + 1) 0 _ _ _ _ hT e17 (by omega) (by omega) (by omega) (fun j hj => by rw [ix_0] at hj; omega) (fun x hx => congrFun ((zput_J (x := rS) hus11).trans jrS) x) (fun _ => ((zput_J (x := rS) hus11).trans jrS)) ((zput_Io hus11 ((hTo.k trK (by decide)).ne (hTo.k t_this (by decide)) (by decide))).trans jrK) hl (by omega)
  · have c2 := gi_ne c9
    refine lv_iconst (v := 0) hx hb dX6_save_11 (by decide) ?_
    refine lv_goto (tgt := 16) hx hb dX6_save_12 (by decide) ?_
    have jrS : zJ s3 rS = zJ σ0 rS := funext fun k => trS.eJ hEs3 (by decide) rfl
    have jrK : zI s3 rK = zI σ0 rK := funext fun k => trK.eI hEs3 (by decide) rfl
    have hTo := hT
    refine pf20_0 hx hb hg hown hK hT (hT.k t_this (by decide)) rfl (hg _ k1219) dX6_save_16 (fun H locs s19 hus19 hT => ?_)
    have R20 : RI κ s19 this := R4.put hus19 (hTo.k t_this (by decide)) (by decide)
    have B21 := R20.b
    rw [erW] at B21
    have K22 : zI s19 this 7 = zI σ0 this 7 := hT.eI t_this (by decide) rfl rfl
    have K22n : (zI s19 this 7).toInt = (zI σ0 this 7).toInt := by rw [K22]
    have J23 : zJ s19 rW = zJ σ0 rW := funext fun k => hT.eJ trW (by decide) rfl rfl
    have J23n : (zJ s19 (kR κ this 1) 4).toInt = (zJ σ0 rW 4).toInt := by rw [erW, J23]
    have P24 : zI s19 rP = zI σ0 rP := funext fun k => hT.eI trP (by decide) rfl rfl
    try simp only [K22, J23, P24] at B21
    have e25 : zI s19 this 0 = 0 := zput_at hus19
    refine lv_iconst (v := 0) hx hb dX6_save_19 (by decide) ?_
    refine lv_istore_n (lv' := [(2, .int 0), (0, .ref this), (1, .int sl)]) hx hb dX6_save_20 rfl hl (by decide) rfl (fun ls hl => ?_)
    have loop21 : ∀ (n9 : Nat) (k : Int32) (H : Heap) (locs : List Loc) (sg : Gh) (ls : Array Slot), TS κ gS σ0 sg s H locs → (zI sg this 0 = 0) → (0 ≤ k.toInt) → (k.toInt ≤ 609) → ((0 : Int32).toInt ≠ 0 ∨ (0 ≤ sl.toInt ∧ sl.toInt ≤ 1)) → (∀ j : Nat, j < ix k → zJ sg rS (609 * ix sl + j) = zJ σ0 rW j) → (∀ x : Nat, (x < 609 * ix sl ∨ 609 * ix sl + 609 ≤ x) → zJ sg rS x = zJ σ0 rS x) → ((0 : Int32).toInt ≠ 0 → zJ sg rS = zJ σ0 rS) → (zI sg rK = zI σ0 rK) → lv_has ls 3 [(2, .int k), (0, .ref this), (1, .int sl)] → (609 - k.toInt) < n9 → tW p l e 1 25 κ s m #[.ref this, .int sl] below meth c H locs Q9 (F0 m 21 ls []) := by
      intro n9
      induction n9 with
      | zero =>
        intro k H locs sg ls hT kthis_0 q1 q2 q0 q3 q4 q6 q7 hl hm9
        exfalso
        omega
      | succ n9 ih9 =>
        have ih21 := ih9
        clear ih9
        intro k H locs s26 ls hT kthis_0 q1 q2 q0 q3 q4 q6 q7 hl hm9
        have i_k : (ix k : Int) = k.toInt := by unfold ix; omega
        refine lv_aload_n hx hb dX6_save_21 rfl (lv_at hl 1 rfl) ?_
        refine va_get (D := κ.1) (ci := 6) (v := .int (zI s26 this 0)) (C := RX6) (T := TX6) (N := 27) hx hb hg inX6 hown hK (hT.o20 (hT.k t_this (by decide))).one 0 rfl rfl 0 (by decide) (hg _ k1219) (fun _ h9 => h9) rfl dX6_save_22 ?_
        rw [kthis_0]
        refine lv_if_ne (tgt := 59) hx hb dX6_save_25 (by decide) (fun c9 => absurd (by decide) c9) (fun _ => ?_)
        refine lv_iload_n hx hb dX6_save_28 rfl (lv_at hl 0 rfl) ?_
        refine lv_sipush (v := 609) hx hb dX6_save_29 (by decide) ?_
        refine lv_icmp_ge (tgt := 59) hx hb dX6_save_32 (by decide) (fun c9 => ?_) (fun c9 => ?_)
        · have c3 := gi_le c9
          refine lv_aload_n hx hb dX6_save_59 rfl (lv_at hl 1 rfl) ?_
          refine va_get (D := κ.1) (ci := 6) (v := .int (zI s26 this 0)) (C := RX6) (T := TX6) (N := 27) hx hb hg inX6 hown hK (hT.o20 (hT.k t_this (by decide))).one 0 rfl rfl 0 (by decide) (hg _ k1219) (fun _ h9 => h9) rfl dX6_save_60 ?_
          rw [kthis_0]
          refine lv_if_ne (tgt := 73) hx hb dX6_save_63 (by decide) (fun c9 => absurd (by decide) c9) (fun _ => ?_)
          refine lv_aload_n hx hb dX6_save_66 rfl (lv_at hl 1 rfl) ?_
          refine va_get (D := κ.1) (ci := 6) (v := .ref (kR κ this 4)) (C := RX6) (T := TX6) (N := 27) hx hb hg inX6 hown hK (hT.o20 (hT.k t_this (by decide))).one 0 rfl rfl 4 (by decide) (hg _ k1223) (fun _ h9 => h9) rfl dX6_save_67 ?_
          rw [erK]
          refine lv_iload_n hx hb dX6_save_70 rfl (lv_at hl 2 rfl) ?_
          refine lv_iconst (v := 1) hx hb dX6_save_71 (by decide) ?_
          have hTo := hT
          refine tastz (n := 2) hx hb hK hT (hT.k trK (by decide)) ⟨by decide, by decide⟩ (fun _ _ _ => rfl) (fun _ _ => trivial) (fun _ => rfl) (by omega) (by omega) dX6_save_72 (fun H locs s27 hus27 hT => ?_)
          have kthis_0 : zI s27 this 0 = 0 := (zput_o hus27 (Or.inl ((hTo.k t_this (by decide)).ne (hTo.k trK (by decide)) (by decide)))).trans kthis_0
          subst hQ9
          exact t_v hx hb hr hlocks hT ⟨(h0.slots hT.2.2.1 ⟨rfl, rfl, fun _ => rfl, fun _ => rfl⟩ (fun i hi hz => (Classical.em (i = ix sl)).elim (fun e9 => by rw [erS, e9]; exact hW.of609 (fun j hj => by show zJ s27 rS (609 * ix sl + j) = zJ σ0 rW j; rw [zput_J hus27]; exact q3 j (by unfold ix at *; omega))) (fun e9 => by rw [erK, zput_o hus27 (Or.inr e9), q7, ← erK] at hz; have z9 := h0.2.2.2.2 i hi hz; rw [erS] at z9 ⊢; exact z9.congr (fun j hj => by show zJ s27 rS (609 * i + j) = zJ σ0 rS (609 * i + j); rw [zput_J hus27]; exact q4 _ (by unfold rel at hj; omega))))), Or.inl ⟨by omega, by omega, fun j => by rw [erK]; exact (Classical.em (j = ix sl)).elim (fun e9 => by rw [if_pos e9, e9, zput_at hus27]; decide) (fun e9 => by rw [if_neg e9, zput_o hus27 (Or.inr e9), q7]), fun j hj => by rw [erS, erW, zput_J hus27]; exact q3 j (by unfold ix at *; omega), fun x hx => by rw [erS, zput_J hus27]; exact q4 x hx⟩⟩ dX6_save_73
        · have c4 := gi_nle c9
          refine lv_aload_n hx hb dX6_save_35 rfl (lv_at hl 1 rfl) ?_
          refine va_get (D := κ.1) (ci := 6) (v := .ref (kR κ this 3)) (C := RX6) (T := TX6) (N := 27) hx hb hg inX6 hown hK (hT.o20 (hT.k t_this (by decide))).one 0 rfl rfl 3 (by decide) (hg _ k1222) (fun _ h9 => h9) rfl dX6_save_36 ?_
          rw [erS]
          refine lv_sipush (v := 609) hx hb dX6_save_39 (by decide) ?_
          refine lv_iload_n hx hb dX6_save_42 rfl (lv_at hl 2 rfl) ?_
          refine lv_imul hx hb dX6_save_43 ?_
          first | (refine g_mul (by rw [n609]; omega) (by rw [n609]; omega) (fun t28 ht28 => ?_); rw [n609] at ht28) | refine lv_topi (fun t28 ht28 => ?_)
          refine lv_iload_n hx hb dX6_save_44 rfl (lv_at hl 0 rfl) ?_
          refine lv_iadd hx hb dX6_save_45 ?_
          first | refine g_add (by omega) (by omega) (fun t29 ht29 => ?_) | refine lv_topi (fun t29 ht29 => ?_)
          refine lv_aload_n hx hb dX6_save_46 rfl (lv_at hl 1 rfl) ?_
          refine va_get (D := κ.1) (ci := 6) (v := .ref (kR κ this 1)) (C := RX6) (T := TX6) (N := 27) hx hb hg inX6 hown hK (hT.o20 (hT.k t_this (by decide))).one 0 rfl rfl 1 (by decide) (hg _ k1220) (fun _ h9 => h9) rfl dX6_save_47 ?_
          rw [erW]
          refine lv_iload_n hx hb dX6_save_50 rfl (lv_at hl 0 rfl) ?_
          refine va_lald hx hb hK (hT.o21 (hT.k trW (by decide))).one 0 1 rfl rfl (g_in (by omega) (by omega)) dX6_save_51 ?_
          refine lv_topl (fun t30 ht30 => ?_)
          have K31 : zI s26 this 7 = zI σ0 this 7 := hT.eI t_this (by decide) rfl rfl
          have K31n : (zI s26 this 7).toInt = (zI σ0 this 7).toInt := by rw [K31]
          have J32 : zJ s26 rW = zJ σ0 rW := funext fun k => hT.eJ trW (by decide) rfl rfl
          have J32n : (zJ s26 (kR κ this 1) 4).toInt = (zJ σ0 rW 4).toInt := by rw [erW, J32]
          have P33 : zI s26 rP = zI σ0 rP := funext fun k => hT.eI trP (by decide) rfl rfl
          have hTo := hT
          refine tastl (n := 1218) hx hb hK hT (hT.k trS (by decide)) ⟨by decide, by decide⟩ (fun _ _ _ => rfl) (fun _ _ => trivial) (fun _ => rfl) (by omega) (by omega) dX6_save_52 (fun H locs s34 hus34 hT => ?_)
          have kthis_0 : zI s34 this 0 = 0 := by rw [zpul_I hus34]; exact kthis_0
          obtain ⟨t35, qt35⟩ : ∃ zz9 : Int32, k + Int32.ofInt 1 = zz9 := ⟨_, rfl⟩
          refine lv_iinc (v := t35) (lv' := [(2, .int t35), (0, .ref this), (1, .int sl)]) hx hb dX6_save_53 hl (k := 0) rfl qt35 (by decide) rfl (fun ls hl => ?_)
          have ht35 : t35.toInt = k.toInt + 1 := by rw [← qt35]; exact v_addi rfl (show (Int32.ofInt 1).toInt = 1 from by decide) (by omega) (by omega)
          refine lv_goto (tgt := 21) hx hb dX6_save_56 (by decide) ?_
          exact ih21 t35 _ _ _ _ hT kthis_0 (by omega) (by omega) (by omega) (fun j hj => by rw [zpul_Ja hus34, (show ix t29 = 609 * ix sl + ix k from by unfold ix; omega)]; rw [(show ix t35 = ix k + 1 from by unfold ix; omega)] at hj; exact (Classical.em (j = ix k)).elim (fun e9 => by rw [e9, uh, ht30]; exact hTo.eJ trW (by decide) rfl rfl) (fun e9 => by rw [un (show 609 * ix sl + j ≠ 609 * ix sl + ix k from by omega)]; exact q3 j (by omega))) (fun x hx => by rw [zpul_Ja hus34, (show ix t29 = 609 * ix sl + ix k from by unfold ix; omega), un (show x ≠ 609 * ix sl + ix k from by unfold ix at *; omega)]; exact q4 x hx) (fun q9 => by omega) (by rw [zpul_I hus34]; exact q7) hl (by omega)
    exact loop21 ((609 - (0 : Int32).toInt).toNat + 1) 0 _ _ _ _ hT e25 (by omega) (by omega) (by omega) (fun j hj => by rw [ix_0] at hj; omega) (fun x hx => congrFun ((zput_J (x := rS) hus19).trans jrS) x) (fun _ => ((zput_J (x := rS) hus19).trans jrS)) ((zput_Io hus19 ((hTo.k trK (by decide)).ne (hTo.k t_this (by decide)) (by decide))).trans jrK) hl (by omega)
set_option maxHeartbeats 4000000 in
set_option maxRecDepth 100000 in
theorem X6s_restore (l : Launch) (κ : Kt) (σ0 : Gh) (this : Nat) (sl : Int32) (t_this : zk σ0 this 20) (h0 : RI κ σ0 this) : TC l yX6_restore cX6_restore 3 none 1 25 [.ref this, .int sl] κ σ0 (tqv κ gXs σ0 (fun (τ : Gh) => (RI κ τ this) ∧ (((sl.toInt < 0 ∨ 1 < sl.toInt) ∧ (zI τ this 0).toInt = 1 ∧ (∀ j : Nat, j < 3 → zJ τ (kR κ this 1) j = zJ σ0 (kR κ this 1) j)) ∨ (0 ≤ sl.toInt ∧ sl.toInt ≤ 1 ∧ zI σ0 (kR κ this 4) (ix sl) ≠ 0 ∧ (zI τ this 0).toInt = 0 ∧ ∀ j : Nat, j < 3 → zJ τ (kR κ this 1) j = zJ σ0 (kR κ this 3) (609 * ix sl + j)) ∨ (0 ≤ sl.toInt ∧ sl.toInt ≤ 1 ∧ zI σ0 (kR κ this 4) (ix sl) = 0 ∧ (zI τ this 0).toInt = 2 ∧ (∀ j : Nat, j < 3 → zJ τ (kR κ this 1) j = zJ σ0 (kR κ this 1) j))))) := by
  refine TC.of gXs (by decide +kernel) (Nat.le_of_ble_eq_true rfl) ?_
  intro p e s m below meth c ls hcs hK hX hT hl
  obtain ⟨hx, hb, hr, hml, hown, hg, hlocks, hin⟩ := hcs
  have hown : s.vm.findClass RX6 = some m.cls := hown
  have hl : lv_has ls 3 [(0, .ref this), (1, .int sl)] := hl
  have hT0 := hT
  have n0 : (0 : Int32).toInt = 0 := by decide
  have n1 : (1 : Int32).toInt = 1 := by decide
  have n2 : (2 : Int32).toInt = 2 := by decide
  have n609 : (609 : Int32).toInt = 609 := by decide
  have j0 : (0 : Int64).toInt = 0 := by decide
  have j1 : (1 : Int64).toInt = 1 := by decide
  have sl_lo := Int32.le_toInt sl
  have sl_hi := Int32.toInt_lt sl
  generalize hQ9 : tQ _ _ _ _ _ _ = Q9
  obtain ⟨rW, erW⟩ : ∃ z, kR κ this 1 = z := ⟨_, rfl⟩
  have trW : zk σ0 rW 21 := by rw [← erW]; exact h0.1.2.1
  obtain ⟨rP, erP⟩ : ∃ z, kR κ this 5 = z := ⟨_, rfl⟩
  have trP : zk σ0 rP 25 := by rw [← erP]; exact h0.1.2.2.2.2
  have hB0 := h0.b
  rw [erW] at hB0
  have hW := h0.2.1
  rw [erW] at hW
  have hP := h0.2.2.1
  rw [erP] at hP
  have hrN : (rN σ0 this : Int) = (zI σ0 this 7).toInt := by unfold rN; omega
  obtain ⟨rS, erS⟩ : ∃ z, kR κ this 3 = z := ⟨_, rfl⟩
  have trS : zk σ0 rS 22 := by rw [← erS]; exact hT0.ref t_this (by decide) (by decide) (by decide)
  obtain ⟨rK, erK⟩ : ∃ z, kR κ this 4 = z := ⟨_, rfl⟩
  have trK : zk σ0 rK 29 := by rw [← erK]; exact hT0.ref t_this (by decide) (by decide) (by decide)
  refine lv_aload_n hx hb dX6_restore_0 rfl (lv_at hl 0 rfl) ?_
  refine lv_iload_n hx hb dX6_restore_1 rfl (lv_at hl 1 rfl) ?_
  refine lv_i2l hx hb dX6_restore_2 rfl ?_
  refine g_i2l (fun t1 ht1 => ?_)
  refine lv_lconst (v := 0) hx hb dX6_restore_3 (by decide) ?_
  refine lv_lconst (v := 1) hx hb dX6_restore_4 (by decide) ?_
  have hTo := hT
  refine tSi (n := 3) (As := [.long t1, .long 0, .long 1]) (rest := [.ref this]) hx hb hml hown hg hT hK hX (X6_in l κ σ0 t1 0 1   ) sub_fE_gXs (mwS k1317 k1318 k92 k1319) ⟨rfl, by decide, by decide, by decide +kernel⟩ ⟨(Nat.le_of_ble_eq_true rfl), (Nat.le_of_ble_eq_true rfl)⟩ rfl hl.1 rfl (Nat.le_of_ble_eq_true rfl) dX6_restore_5 zroom.rf (fun x2 s3 H locs hφ hEs3 hT => ?_)
  have R4 : RI κ s3 this := h0.ext hEs3 ⟨rfl, rfl, fun _ => rfl, fun _ => rfl, fun _ => rfl, fun _ => rfl⟩
  have B5 := R4.b
  rw [erW] at B5
  have K6 : zI s3 this 7 = zI σ0 this 7 := hT.eI t_this (by decide) rfl rfl
  have K6n : (zI s3 this 7).toInt = (zI σ0 this 7).toInt := by rw [K6]
  have P7 : zI s3 rP = zI σ0 rP := funext fun k => hT.eI trP (by decide) rfl rfl
  try simp only [K6, P7] at B5
  obtain ⟨f8, f9⟩ := hφ
  try simp only [erW, erP, ix_0, ix_1, ix_2, ix_3, ix_4, ix_5, ix_6, ix_7, ix_8, ix_9, K6, P7] at f8
  refine lv_if_ne (tgt := 15) hx hb dX6_restore_8 (by decide) (fun c9 => ?_) (fun c9 => ?_)
  · have c1 := gi_ne c9
    refine lv_aload_n hx hb dX6_restore_15 rfl (lv_at hl 0 rfl) ?_
    refine va_get (D := κ.1) (ci := 6) (v := .ref (kR κ this 4)) (C := RX6) (T := TX6) (N := 27) hx hb hg inX6 hown hK (hT.o20 (hT.k t_this (by decide))).one 0 rfl rfl 4 (by decide) (hg _ k1223) (fun _ h9 => h9) rfl dX6_restore_16 ?_
    rw [erK]
    refine lv_iload_n hx hb dX6_restore_19 rfl (lv_at hl 1 rfl) ?_
    refine va_zald hx hb hK (hT.o29 (hT.k trK (by decide))).one 0 3 rfl rfl (g_in (by omega) (by omega)) dX6_restore_20 ?_
    refine lv_topi (fun t10 ht10 => ?_)
    refine lv_if_eq (tgt := 28) hx hb dX6_restore_21 (by decide) (fun c9 => ?_) (fun c9 => ?_)
    · have c2 := gi_eq c9
      have z7 : zI σ0 rK (ix sl) = 0 := b0_of (z := t10) (by rw [ht10]; exact hT.eI trK (by decide) rfl rfl) (by omega)
      refine lv_iconst (v := 2) hx hb dX6_restore_28 (by decide) ?_
      have jrW : zJ s3 rW = zJ σ0 rW := funext fun k => trW.eJ hEs3 (by decide) rfl
      have hTo := hT
      refine pf20_0 hx hb hg hown hK hT (hT.k t_this (by decide)) rfl (hg _ k1219) dX6_restore_29 (fun H locs s11 hus11 hT => ?_)
      have R12 : RI κ s11 this := R4.put hus11 (hTo.k t_this (by decide)) (by decide)
      have B13 := R12.b
      rw [erW] at B13
      have K14 : zI s11 this 7 = zI σ0 this 7 := hT.eI t_this (by decide) rfl rfl
      have K14n : (zI s11 this 7).toInt = (zI σ0 this 7).toInt := by rw [K14]
      have P15 : zI s11 rP = zI σ0 rP := funext fun k => hT.eI trP (by decide) rfl rfl
      try simp only [K14, P15] at B13
      have e16 : zI s11 this 0 = 2 := zput_at hus11
      refine lv_iconst (v := 0) hx hb dX6_restore_32 (by decide) ?_
      refine lv_istore_n (lv' := [(2, .int 0), (0, .ref this), (1, .int sl)]) hx hb dX6_restore_33 rfl hl (by decide) rfl (fun ls hl => ?_)
      have loop34 : ∀ (n9 : Nat) (k : Int32) (H : Heap) (locs : List Loc) (sg : Gh) (ls : Array Slot), TS κ gXs σ0 sg s H locs → (zI sg this 0 = 2) → (0 ≤ k.toInt) → (k.toInt ≤ 609) → ((2 : Int32).toInt ≠ 0 ∨ (0 ≤ sl.toInt ∧ sl.toInt ≤ 1)) → ((2 : Int32).toInt ≠ 0 ∨ zI σ0 rK (ix sl) ≠ 0) → (∀ j : Nat, j < ix k → zJ sg rW j = zJ σ0 rS (609 * ix sl + j)) → ((2 : Int32).toInt ≠ 0 → zJ sg rW = zJ σ0 rW) → lv_has ls 3 [(2, .int k), (0, .ref this), (1, .int sl)] → (609 - k.toInt) < n9 → tW p l e 1 25 κ s m #[.ref this, .int sl] below meth c H locs Q9 (F0 m 34 ls []) := by
        intro n9
        induction n9 with
        | zero =>
          intro k H locs sg ls hT kthis_0 q1 q2 q0 q8 q3 q6 hl hm9
          exfalso
          omega
        | succ n9 ih9 =>
          have ih34 := ih9
          clear ih9
          intro k H locs s17 ls hT kthis_0 q1 q2 q0 q8 q3 q6 hl hm9
          have i_k : (ix k : Int) = k.toInt := by unfold ix; omega
          refine lv_aload_n hx hb dX6_restore_34 rfl (lv_at hl 1 rfl) ?_
          refine va_get (D := κ.1) (ci := 6) (v := .int (zI s17 this 0)) (C := RX6) (T := TX6) (N := 27) hx hb hg inX6 hown hK (hT.o20 (hT.k t_this (by decide))).one 0 rfl rfl 0 (by decide) (hg _ k1219) (fun _ h9 => h9) rfl dX6_restore_35 ?_
          rw [kthis_0]
          refine lv_if_ne (tgt := 72) hx hb dX6_restore_38 (by decide) (fun _ => ?_) (fun c9 => absurd c9 (by decide))
          subst hQ9
          exact t_v hx hb hr hlocks hT ⟨(h0.extw hT.2.2.1 ⟨rfl, rfl, fun _ => rfl, fun _ => rfl, fun _ => rfl⟩ (by rw [erW, q6 (by omega)]; exact hW)), Or.inr (Or.inr ⟨by omega, by omega, by rw [erK]; exact z7, by rw [kthis_0]; exact n2, fun j hj => by rw [erW, q6 (by omega)]⟩)⟩ dX6_restore_72
      exact loop34 ((609 - (0 : Int32).toInt).toNat + 1) 0 _ _ _ _ hT e16 (by omega) (by omega) (by omega) (Or.inl (by omega)) (fun j hj => by rw [ix_0] at hj; omega) (fun _ => ((zput_J (x := rW) hus11).trans jrW)) hl (by omega)
    · have c3 := gi_ne c9
      have z8 : zI σ0 rK (ix sl) ≠ 0 := fun z9 => by
        have y8 : t10 = 0 := by rw [ht10, show zI s3 rK = zI σ0 rK from funext fun k => hT.eI trK (by decide) rfl rfl]; exact z9
        have y7 : t10.toInt = 0 := by rw [y8]; decide
        omega
      refine lv_iconst (v := 0) hx hb dX6_restore_24 (by decide) ?_
      refine lv_goto (tgt := 29) hx hb dX6_restore_25 (by decide) ?_
      have jrW : zJ s3 rW = zJ σ0 rW := funext fun k => trW.eJ hEs3 (by decide) rfl
      have hTo := hT
      refine pf20_0 hx hb hg hown hK hT (hT.k t_this (by decide)) rfl (hg _ k1219) dX6_restore_29 (fun H locs s18 hus18 hT => ?_)
      have R19 : RI κ s18 this := R4.put hus18 (hTo.k t_this (by decide)) (by decide)
      have B20 := R19.b
      rw [erW] at B20
      have K21 : zI s18 this 7 = zI σ0 this 7 := hT.eI t_this (by decide) rfl rfl
      have K21n : (zI s18 this 7).toInt = (zI σ0 this 7).toInt := by rw [K21]
      have P22 : zI s18 rP = zI σ0 rP := funext fun k => hT.eI trP (by decide) rfl rfl
      try simp only [K21, P22] at B20
      have e23 : zI s18 this 0 = 0 := zput_at hus18
      refine lv_iconst (v := 0) hx hb dX6_restore_32 (by decide) ?_
      refine lv_istore_n (lv' := [(2, .int 0), (0, .ref this), (1, .int sl)]) hx hb dX6_restore_33 rfl hl (by decide) rfl (fun ls hl => ?_)
      have loop34 : ∀ (n9 : Nat) (k : Int32) (H : Heap) (locs : List Loc) (sg : Gh) (ls : Array Slot), TS κ gXs σ0 sg s H locs → (zI sg this 0 = 0) → (0 ≤ k.toInt) → (k.toInt ≤ 609) → ((0 : Int32).toInt ≠ 0 ∨ (0 ≤ sl.toInt ∧ sl.toInt ≤ 1)) → ((0 : Int32).toInt ≠ 0 ∨ zI σ0 rK (ix sl) ≠ 0) → (∀ j : Nat, j < ix k → zJ sg rW j = zJ σ0 rS (609 * ix sl + j)) → ((0 : Int32).toInt ≠ 0 → zJ sg rW = zJ σ0 rW) → lv_has ls 3 [(2, .int k), (0, .ref this), (1, .int sl)] → (609 - k.toInt) < n9 → tW p l e 1 25 κ s m #[.ref this, .int sl] below meth c H locs Q9 (F0 m 34 ls []) := by
        intro n9
        induction n9 with
        | zero =>
          intro k H locs sg ls hT kthis_0 q1 q2 q0 q8 q3 q6 hl hm9
          exfalso
          omega
        | succ n9 ih9 =>
          have ih34 := ih9
          clear ih9
          intro k H locs s24 ls hT kthis_0 q1 q2 q0 q8 q3 q6 hl hm9
          have i_k : (ix k : Int) = k.toInt := by unfold ix; omega
          refine lv_aload_n hx hb dX6_restore_34 rfl (lv_at hl 1 rfl) ?_
          refine va_get (D := κ.1) (ci := 6) (v := .int (zI s24 this 0)) (C := RX6) (T := TX6) (N := 27) hx hb hg inX6 hown hK (hT.o20 (hT.k t_this (by decide))).one 0 rfl rfl 0 (by decide) (hg _ k1219) (fun _ h9 => h9) rfl dX6_restore_35 ?_
          rw [kthis_0]
          refine lv_if_ne (tgt := 72) hx hb dX6_restore_38 (by decide) (fun c9 => absurd (by decide) c9) (fun _ => ?_)
          refine lv_iload_n hx hb dX6_restore_41 rfl (lv_at hl 0 rfl) ?_
          refine lv_sipush (v := 609) hx hb dX6_restore_42 (by decide) ?_
          refine lv_icmp_ge (tgt := 72) hx hb dX6_restore_45 (by decide) (fun c9 => ?_) (fun c9 => ?_)
          · have c4 := gi_le c9
            subst hQ9
            exact t_v hx hb hr hlocks hT ⟨(h0.extw hT.2.2.1 ⟨rfl, rfl, fun _ => rfl, fun _ => rfl, fun _ => rfl⟩ (by rw [erW]; have z9 := h0.2.2.2.2 (ix sl) (by unfold ix; omega) (by rw [erK]; exact q8.resolve_left (by omega)); rw [erS] at z9; exact z9.of609 (fun j hj => q3 j (by unfold ix at *; omega)))), Or.inr (Or.inl ⟨by omega, by omega, by rw [erK]; exact q8.resolve_left (by omega), by rw [kthis_0]; exact n0, fun j hj => by rw [erW, erS]; exact q3 j (by unfold ix at *; omega)⟩)⟩ dX6_restore_72
          · have c5 := gi_nle c9
            refine lv_aload_n hx hb dX6_restore_48 rfl (lv_at hl 1 rfl) ?_
            refine va_get (D := κ.1) (ci := 6) (v := .ref (kR κ this 1)) (C := RX6) (T := TX6) (N := 27) hx hb hg inX6 hown hK (hT.o20 (hT.k t_this (by decide))).one 0 rfl rfl 1 (by decide) (hg _ k1220) (fun _ h9 => h9) rfl dX6_restore_49 ?_
            rw [erW]
            refine lv_iload_n hx hb dX6_restore_52 rfl (lv_at hl 0 rfl) ?_
            refine lv_aload_n hx hb dX6_restore_53 rfl (lv_at hl 1 rfl) ?_
            refine va_get (D := κ.1) (ci := 6) (v := .ref (kR κ this 3)) (C := RX6) (T := TX6) (N := 27) hx hb hg inX6 hown hK (hT.o20 (hT.k t_this (by decide))).one 0 rfl rfl 3 (by decide) (hg _ k1222) (fun _ h9 => h9) rfl dX6_restore_54 ?_
            rw [erS]
            refine lv_sipush (v := 609) hx hb dX6_restore_57 (by decide) ?_
            refine lv_iload_n hx hb dX6_restore_60 rfl (lv_at hl 2 rfl) ?_
            refine lv_imul hx hb dX6_restore_61 ?_
            first | (refine g_mul (by rw [n609]; omega) (by rw [n609]; omega) (fun t25 ht25 => ?_); rw [n609] at ht25) | refine lv_topi (fun t25 ht25 => ?_)
            refine lv_iload_n hx hb dX6_restore_62 rfl (lv_at hl 0 rfl) ?_
            refine lv_iadd hx hb dX6_restore_63 ?_
            first | refine g_add (by omega) (by omega) (fun t26 ht26 => ?_) | refine lv_topi (fun t26 ht26 => ?_)
            refine va_lald hx hb hK (hT.o22 (hT.k trS (by decide))).one 0 1 rfl rfl (g_in (by omega) (by omega)) dX6_restore_64 ?_
            refine lv_topl (fun t27 ht27 => ?_)
            have hTo := hT
            refine tastl (n := 609) hx hb hK hT (hT.k trW (by decide)) ⟨by decide, by decide⟩ (fun _ _ _ => rfl) (fun _ _ => trivial) (fun _ => rfl) (by omega) (by omega) dX6_restore_65 (fun H locs s28 hus28 hT => ?_)
            have kthis_0 : zI s28 this 0 = 0 := by rw [zpul_I hus28]; exact kthis_0
            obtain ⟨t29, qt29⟩ : ∃ zz9 : Int32, k + Int32.ofInt 1 = zz9 := ⟨_, rfl⟩
            refine lv_iinc (v := t29) (lv' := [(2, .int t29), (0, .ref this), (1, .int sl)]) hx hb dX6_restore_66 hl (k := 0) rfl qt29 (by decide) rfl (fun ls hl => ?_)
            have ht29 : t29.toInt = k.toInt + 1 := by rw [← qt29]; exact v_addi rfl (show (Int32.ofInt 1).toInt = 1 from by decide) (by omega) (by omega)
            refine lv_goto (tgt := 34) hx hb dX6_restore_69 (by decide) ?_
            exact ih34 t29 _ _ _ _ hT kthis_0 (by omega) (by omega) (by omega) q8 (fun j hj => by rw [zpul_Ja hus28]; rw [(show ix t29 = ix k + 1 from by unfold ix; omega)] at hj; exact (Classical.em (j = ix k)).elim (fun e9 => by rw [e9, uh, ht27]; exact Eq.trans (hTo.eJ (k := ix t26) trS (by decide) rfl rfl) (congrArg (zJ σ0 rS) (show ix t26 = 609 * ix sl + ix k from by unfold ix; omega))) (fun e9 => by rw [un e9]; exact q3 j (by omega))) (fun q9 => by omega) hl (by omega)
      exact loop34 ((609 - (0 : Int32).toInt).toNat + 1) 0 _ _ _ _ hT e23 (by omega) (by omega) (by omega) (Or.inr z8) (fun j hj => by rw [ix_0] at hj; omega) (fun _ => ((zput_J (x := rW) hus18).trans jrW)) hl (by omega)
  · have c6 := gi_eq c9
    refine lv_iconst (v := 1) hx hb dX6_restore_11 (by decide) ?_
    refine lv_goto (tgt := 29) hx hb dX6_restore_12 (by decide) ?_
    have jrW : zJ s3 rW = zJ σ0 rW := funext fun k => trW.eJ hEs3 (by decide) rfl
    have hTo := hT
    refine pf20_0 hx hb hg hown hK hT (hT.k t_this (by decide)) rfl (hg _ k1219) dX6_restore_29 (fun H locs s30 hus30 hT => ?_)
    have R31 : RI κ s30 this := R4.put hus30 (hTo.k t_this (by decide)) (by decide)
    have B32 := R31.b
    rw [erW] at B32
    have K33 : zI s30 this 7 = zI σ0 this 7 := hT.eI t_this (by decide) rfl rfl
    have K33n : (zI s30 this 7).toInt = (zI σ0 this 7).toInt := by rw [K33]
    have P34 : zI s30 rP = zI σ0 rP := funext fun k => hT.eI trP (by decide) rfl rfl
    try simp only [K33, P34] at B32
    have e35 : zI s30 this 0 = 1 := zput_at hus30
    refine lv_iconst (v := 0) hx hb dX6_restore_32 (by decide) ?_
    refine lv_istore_n (lv' := [(2, .int 0), (0, .ref this), (1, .int sl)]) hx hb dX6_restore_33 rfl hl (by decide) rfl (fun ls hl => ?_)
    have loop34 : ∀ (n9 : Nat) (k : Int32) (H : Heap) (locs : List Loc) (sg : Gh) (ls : Array Slot), TS κ gXs σ0 sg s H locs → (zI sg this 0 = 1) → (0 ≤ k.toInt) → (k.toInt ≤ 609) → ((1 : Int32).toInt ≠ 0 ∨ (0 ≤ sl.toInt ∧ sl.toInt ≤ 1)) → ((1 : Int32).toInt ≠ 0 ∨ zI σ0 rK (ix sl) ≠ 0) → (∀ j : Nat, j < ix k → zJ sg rW j = zJ σ0 rS (609 * ix sl + j)) → ((1 : Int32).toInt ≠ 0 → zJ sg rW = zJ σ0 rW) → lv_has ls 3 [(2, .int k), (0, .ref this), (1, .int sl)] → (609 - k.toInt) < n9 → tW p l e 1 25 κ s m #[.ref this, .int sl] below meth c H locs Q9 (F0 m 34 ls []) := by
      intro n9
      induction n9 with
      | zero =>
        intro k H locs sg ls hT kthis_0 q1 q2 q0 q8 q3 q6 hl hm9
        exfalso
        omega
      | succ n9 ih9 =>
        have ih34 := ih9
        clear ih9
        intro k H locs s36 ls hT kthis_0 q1 q2 q0 q8 q3 q6 hl hm9
        have i_k : (ix k : Int) = k.toInt := by unfold ix; omega
        refine lv_aload_n hx hb dX6_restore_34 rfl (lv_at hl 1 rfl) ?_
        refine va_get (D := κ.1) (ci := 6) (v := .int (zI s36 this 0)) (C := RX6) (T := TX6) (N := 27) hx hb hg inX6 hown hK (hT.o20 (hT.k t_this (by decide))).one 0 rfl rfl 0 (by decide) (hg _ k1219) (fun _ h9 => h9) rfl dX6_restore_35 ?_
        rw [kthis_0]
        refine lv_if_ne (tgt := 72) hx hb dX6_restore_38 (by decide) (fun _ => ?_) (fun c9 => absurd c9 (by decide))
        subst hQ9
        exact t_v hx hb hr hlocks hT ⟨(h0.extw hT.2.2.1 ⟨rfl, rfl, fun _ => rfl, fun _ => rfl, fun _ => rfl⟩ (by rw [erW, q6 (by omega)]; exact hW)), Or.inl ⟨by omega, by rw [kthis_0]; exact n1, fun j hj => by rw [erW, q6 (by omega)]⟩⟩ dX6_restore_72
    exact loop34 ((609 - (0 : Int32).toInt).toNat + 1) 0 _ _ _ _ hT e35 (by omega) (by omega) (by omega) (Or.inl (by omega)) (fun j hj => by rw [ix_0] at hj; omega) (fun _ => ((zput_J (x := rW) hus30).trans jrW)) hl (by omega)

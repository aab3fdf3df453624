/-! The reference: append, load, save, restore -/
set_option maxHeartbeats 4000000 in
set_option maxRecDepth 100000 in
theorem X6s_four (l : Launch) (κ : Kt) (σ0 : Gh) (this : Nat) (f : Int32) (t_this : zk σ0 this 20) (h0 : RI κ σ0 this) (h1 : 0 ≤ (zI σ0 this 13).toInt) (h2 : (zI σ0 this 13).toInt ≤ 696) : TC l yX6_four cX6_four 3 none 0 0 [.ref this, .int f] κ σ0 (tqv κ gAp σ0 (fun (τ : Gh) => (RI κ τ this) ∧ ((zI τ this 13).toInt = (zI σ0 this 13).toInt + 4) ∧ (zI τ (kR κ this 12) = byn tmb (zI σ0 (kR κ this 12)) (zI σ0 this 13).toInt.toNat f 4))) := by
  refine TC.of gAp (by decide +kernel) (Nat.le_of_ble_eq_true rfl) ?_
  intro p e s m below meth c ls hcs hK hX hT hl
  obtain ⟨hx, hb, hr, hml, hown, hg, hlocks, hin⟩ := hcs
  have hown : s.vm.findClass RX6 = some m.cls := hown
  have hl : lv_has ls 3 [(0, .ref this), (1, .int f)] := hl
  have hT0 := hT
  have n0 : (0 : Int32).toInt = 0 := by decide
  have n1 : (1 : Int32).toInt = 1 := by decide
  have n24 : (24 : Int32).toInt = 24 := by decide
  have n255 : (255 : Int32).toInt = 255 := by decide
  have f_lo := Int32.le_toInt f
  have f_hi := Int32.toInt_lt f
  generalize hQ9 : tQ _ _ _ _ _ _ = Q9
  obtain ⟨rW, erW⟩ : ∃ z, kR κ this 1 = z := ⟨_, rfl⟩
  have trW : zk σ0 rW 21 := by rw [← erW]; exact h0.1.2.1
  obtain ⟨rP, erP⟩ : ∃ z, kR κ this 5 = z := ⟨_, rfl⟩
  have trP : zk σ0 rP 25 := by rw [← erP]; exact h0.1.2.2.2.2
  have hB0 := h0.b
  rw [erW] at hB0
  have hW := h0.2.1
  rw [erW] at hW
  have hP := h0.2.2.1
  rw [erP] at hP
  have hrN : (rN σ0 this : Int) = (zI σ0 this 7).toInt := by unfold rN; omega
  obtain ⟨rT, erT⟩ : ∃ z, kR κ this 12 = z := ⟨_, rfl⟩
  have trT : zk σ0 rT 23 := by rw [← erT]; exact hT0.ref t_this (by decide) (by decide) (by decide)
  obtain ⟨L9, hL9⟩ : ∃ z : Nat, (zI σ0 this 13).toInt.toNat = z := ⟨_, rfl⟩
  have hL8 : (zI σ0 this 13).toInt = L9 := by omega
  obtain ⟨v1, ev1⟩ : ∃ zz9 : Int32, zI σ0 this 13 = zz9 := ⟨_, rfl⟩
  have qv1 : v1.toInt = (zI σ0 this 13).toInt := by rw [ev1]
  refine lv_bipush (v := 24) hx hb dX6_four_0 (by decide) ?_
  refine lv_istore_n (lv' := [(2, .int 24), (0, .ref this), (1, .int f)]) hx hb dX6_four_2 rfl hl (by decide) rfl (fun ls hl => ?_)
  have loop3 : ∀ (n9 : Nat) (sh : Int32) (u : Int32) (H : Heap) (locs : List Loc) (sg : Gh) (ls : Array Slot), TS κ gAp σ0 sg s H locs → (zI sg this 13 = u) → (RI κ sg this) → (8 * u.toInt + sh.toInt = 8 * (zI σ0 this 13).toInt + 24) → (-8 ≤ sh.toInt) → (sh.toInt ≤ 24) → (∃ n8 : Nat, (n8 : Int) = u.toInt - L9 ∧ zI sg rT = byn tmb (zI σ0 rT) L9 f n8) → lv_has ls 3 [(2, .int sh), (0, .ref this), (1, .int f)] → (sh.toInt + 8) < n9 → tW p l e 0 0 κ s m #[.ref this, .int f] below meth c H locs Q9 (F0 m 3 ls []) := by
    intro n9
    induction n9 with
    | zero =>
      intro sh u H locs sg ls hT kthis_13 RI0 q1 q2 q3 q4 hl hm9
      exfalso
      omega
    | succ n9 ih9 =>
      have ih3 := ih9
      clear ih9
      intro sh u H locs s2 ls hT kthis_13 RI0 q1 q2 q3 q4 hl hm9
      have B3 := RI0.b
      rw [erW] at B3
      have K4 : zI s2 this 7 = zI σ0 this 7 := hT.eI t_this (by decide) rfl rfl
      have K4n : (zI s2 this 7).toInt = (zI σ0 this 7).toInt := by rw [K4]
      have J5 : zJ s2 rW = zJ σ0 rW := funext fun k => hT.eJ trW (by decide) rfl rfl
      have J5n : (zJ s2 (kR κ this 1) 4).toInt = (zJ σ0 rW 4).toInt := by rw [erW, J5]
      have P6 : zI s2 rP = zI σ0 rP := funext fun k => hT.eI trP (by decide) rfl rfl
      try simp only [K4, J5, P6] at B3
      obtain ⟨n8, hn8, hb8⟩ := q4
      refine lv_iload_n hx hb dX6_four_3 rfl (lv_at hl 0 rfl) ?_
      refine lv_if_lt (tgt := 39) hx hb dX6_four_4 (by decide) (fun c9 => ?_) (fun c9 => ?_)
      · have c1 := gi_lt c9
        subst hQ9
        exact t_v hx hb hr hlocks hT ⟨RI0, by rw [(show zI s2 this 13 = u from kthis_13)]; omega, by rw [erT, hL9, hb8, show n8 = 4 from by omega]⟩ dX6_four_39
      · have c2 := gi_nlt c9
        refine lv_aload_n hx hb dX6_four_7 rfl (lv_at hl 1 rfl) ?_
        refine va_get (D := κ.1) (ci := 6) (v := .ref (kR κ this 12)) (C := RX6) (T := TX6) (N := 27) hx hb hg inX6 hown hK (hT.o20 (hT.k t_this (by decide))).one 0 rfl rfl 12 (by decide) (hg _ k1231) (fun _ h9 => h9) rfl dX6_four_8 ?_
        rw [erT]
        refine lv_aload_n hx hb dX6_four_11 rfl (lv_at hl 1 rfl) ?_
        refine va_get (D := κ.1) (ci := 6) (v := .int (zI s2 this 13)) (C := RX6) (T := TX6) (N := 27) hx hb hg inX6 hown hK (hT.o20 (hT.k t_this (by decide))).one 0 rfl rfl 13 (by decide) (hg _ k1232) (fun _ h9 => h9) rfl dX6_four_12 ?_
        rw [kthis_13]
        refine lv_iload_n hx hb dX6_four_15 rfl (lv_at hl 2 rfl) ?_
        refine lv_iload_n hx hb dX6_four_16 rfl (lv_at hl 0 rfl) ?_
        refine lv_ishr hx hb dX6_four_17 ?_
        refine lv_topi (fun t7 ht7 => ?_)
        refine lv_sipush (v := 255) hx hb dX6_four_18 (by decide) ?_
        refine lv_iand hx hb dX6_four_21 ?_
        refine lv_topi (fun t8 ht8 => ?_)
        have hv9 : t8 = tmb (bt4 f sh.toInt) := by rw [ht8, ht7, bt4_of]; rfl
        have hTo := hT
        refine tasti (n := 700) hx hb hK hT (hT.k trT (by decide)) ⟨by decide, by decide⟩ (fun _ _ _ => rfl) (fun _ _ => trivial) (fun _ => rfl) (by omega) (by omega) dX6_four_22 (fun H locs s9 hus9 hT => ?_)
        have kthis_13 : zI s9 this 13 = u := (zput_o hus9 (Or.inl ((hTo.k t_this (by decide)).ne (hTo.k trT (by decide)) (by decide)))).trans kthis_13
        have R10 : RI κ s9 this := RI0.put hus9 (hTo.k trT (by decide)) ⟨by decide, by decide, fun q => absurd q (by decide)⟩
        have B11 := R10.b
        rw [erW] at B11
        have K12 : zI s9 this 7 = zI σ0 this 7 := hT.eI t_this (by decide) rfl rfl
        have K12n : (zI s9 this 7).toInt = (zI σ0 this 7).toInt := by rw [K12]
        have J13 : zJ s9 rW = zJ σ0 rW := funext fun k => hT.eJ trW (by decide) rfl rfl
        have J13n : (zJ s9 (kR κ this 1) 4).toInt = (zJ σ0 rW 4).toInt := by rw [erW, J13]
        have P14 : zI s9 rP = zI σ0 rP := funext fun k => hT.eI trP (by decide) rfl rfl
        try simp only [K12, J13, P14] at B11
        have Y15 : zI s9 rT = byn tmb (zI σ0 rT) L9 f (n8 + 1) := byn_put (sh := sh.toInt) hb8 hus9 (show ix u = L9 + n8 from by unfold ix; omega) hv9 (by omega)
        refine lv_aload_n hx hb dX6_four_23 rfl (lv_at hl 1 rfl) ?_
        refine lv_dup hx hb dX6_four_24 rfl ?_
        refine va_get (D := κ.1) (ci := 6) (v := .int (zI s9 this 13)) (C := RX6) (T := TX6) (N := 27) hx hb hg inX6 hown hK (hT.o20 (hT.k t_this (by decide))).one 0 rfl rfl 13 (by decide) (hg _ k1232) (fun _ h9 => h9) rfl dX6_four_25 ?_
        rw [kthis_13]
        refine lv_iconst (v := 1) hx hb dX6_four_28 (by decide) ?_
        refine lv_iadd hx hb dX6_four_29 ?_
        first | refine g_add (by omega) (by omega) (fun t16 ht16 => ?_) | refine lv_topi (fun t16 ht16 => ?_)
        have hTo := hT
        refine pf20_13 hx hb hg hown hK hT (hT.k t_this (by decide)) rfl (hg _ k1232) dX6_four_30 (fun H locs s17 hus17 hT => ?_)
        have R18 : RI κ s17 this := R10.putL hus17 ⟨by omega, by omega⟩
        have B19 := R18.b
        rw [erW] at B19
        have K20 : zI s17 this 7 = zI σ0 this 7 := hT.eI t_this (by decide) rfl rfl
        have K20n : (zI s17 this 7).toInt = (zI σ0 this 7).toInt := by rw [K20]
        have J21 : zJ s17 rW = zJ σ0 rW := funext fun k => hT.eJ trW (by decide) rfl rfl
        have J21n : (zJ s17 (kR κ this 1) 4).toInt = (zJ σ0 rW 4).toInt := by rw [erW, J21]
        have P22 : zI s17 rP = zI σ0 rP := funext fun k => hT.eI trP (by decide) rfl rfl
        try simp only [K20, J21, P22] at B19
        have Y23 : zI s17 rT = byn tmb (zI σ0 rT) L9 f (n8 + 1) := by first | (rw [show zI s17 rT = zI s9 rT from zput_Io hus17 ((hTo.k trT (by decide)).ne (hTo.k t_this (by decide)) (by decide))]; exact Y15) | rw [show zI s17 rT = zI s9 rT from zput_Io hus17 ((hTo.k trT (by decide)).ne (hTo.k t_this (by decide)) (by decide))]
        have e24 : zI s17 this 13 = t16 := zput_at hus17
        obtain ⟨t25, qt25⟩ : ∃ zz9 : Int32, sh + Int32.ofInt (-8) = zz9 := ⟨_, rfl⟩
        refine lv_iinc (v := t25) (lv' := [(2, .int t25), (0, .ref this), (1, .int f)]) hx hb dX6_four_33 hl (k := 0) rfl qt25 (by decide) rfl (fun ls hl => ?_)
        have ht25 : t25.toInt = sh.toInt + (-8) := by rw [← qt25]; exact v_addi rfl (show (Int32.ofInt (-8)).toInt = (-8) from by decide) (by omega) (by omega)
        refine lv_goto (tgt := 3) hx hb dX6_four_36 (by decide) ?_
        exact ih3 t25 t16 _ _ _ _ hT e24 R18 (by omega) (by omega) (by omega) ⟨n8 + 1, by omega, Y23⟩ hl (by omega)
  exact loop3 (((24 : Int32).toInt + 8).toNat + 1) 24 v1 _ _ _ _ hT ev1 h0 (by omega) (by omega) (by omega) ⟨0, by omega, byn_0.symm⟩ hl (by omega)
set_option maxHeartbeats 4000000 in
set_option maxRecDepth 100000 in
theorem X6s_append (l : Launch) (κ : Kt) (σ0 : Gh) (this : Nat) (x1 : Int32) (x2 : Int32) (x3 : Int32) (x4 : Int32) (x5 : Int32) (t_this : zk σ0 this 20) (h0 : RI κ σ0 this) : TC l yX6_append cX6_append 6 (some .int) 1 22 [.ref this, .int x1, .int x2, .int x3, .int x4, .int x5] κ σ0 (tqi κ gAp σ0 (fun (r : Int32) (τ : Gh) => (RI κ τ this) ∧ (((zI σ0 this 13).toInt + 20 ≤ 700 ∧ r.toInt = (zI σ0 this 13).toInt + 20 ∧ (zI τ this 13).toInt = (zI σ0 this 13).toInt + 20 ∧ zI τ (kR κ this 12) = by20 tmb (zI σ0 (kR κ this 12)) (zI σ0 this 13).toInt.toNat x1 x2 x3 x4 x5) ∨ (700 < (zI σ0 this 13).toInt + 20 ∧ r.toInt = -1 ∧ (zI τ this 13).toInt = (zI σ0 this 13).toInt ∧ zI τ (kR κ this 12) = zI σ0 (kR κ this 12))))) := by
  refine TC.of gAp (by decide +kernel) (Nat.le_of_ble_eq_true rfl) ?_
  intro p e s m below meth c ls hcs hK hX hT hl
  obtain ⟨hx, hb, hr, hml, hown, hg, hlocks, hin⟩ := hcs
  have hown : s.vm.findClass RX6 = some m.cls := hown
  have hl : lv_has ls 6 [(0, .ref this), (1, .int x1), (2, .int x2), (3, .int x3), (4, .int x4), (5, .int x5)] := hl
  have hT0 := hT
  have nm1 : ((-1) : Int32).toInt = (-1) := by decide
  have n0 : (0 : Int32).toInt = 0 := by decide
  have n20 : (20 : Int32).toInt = 20 := by decide
  have n700 : (700 : Int32).toInt = 700 := by decide
  have x1_lo := Int32.le_toInt x1
  have x1_hi := Int32.toInt_lt x1
  have x2_lo := Int32.le_toInt x2
  have x2_hi := Int32.toInt_lt x2
  have x3_lo := Int32.le_toInt x3
  have x3_hi := Int32.toInt_lt x3
  have x4_lo := Int32.le_toInt x4
  have x4_hi := Int32.toInt_lt x4
  have x5_lo := Int32.le_toInt x5
  have x5_hi := Int32.toInt_lt x5
  generalize hQ9 : tQ _ _ _ _ _ _ = Q9
  obtain ⟨rW, erW⟩ : ∃ z, kR κ this 1 = z := ⟨_, rfl⟩
  have trW : zk σ0 rW 21 := by rw [← erW]; exact h0.1.2.1
  obtain ⟨rP, erP⟩ : ∃ z, kR κ this 5 = z := ⟨_, rfl⟩
  have trP : zk σ0 rP 25 := by rw [← erP]; exact h0.1.2.2.2.2
  have hB0 := h0.b
  rw [erW] at hB0
  have hW := h0.2.1
  rw [erW] at hW
  have hP := h0.2.2.1
  rw [erP] at hP
  have hrN : (rN σ0 this : Int) = (zI σ0 this 7).toInt := by unfold rN; omega
  obtain ⟨rT, erT⟩ : ∃ z, kR κ this 12 = z := ⟨_, rfl⟩
  have trT : zk σ0 rT 23 := by rw [← erT]; exact hT0.ref t_this (by decide) (by decide) (by decide)
  obtain ⟨L9, hL9⟩ : ∃ z : Nat, (zI σ0 this 13).toInt.toNat = z := ⟨_, rfl⟩
  have bRI := h0.b
  have hL8 : (zI σ0 this 13).toInt = L9 := by omega
  obtain ⟨v1, ev1⟩ : ∃ zz9 : Int32, zI σ0 this 13 = zz9 := ⟨_, rfl⟩
  have qv1 : v1.toInt = (zI σ0 this 13).toInt := by rw [ev1]
  have b0 : zI σ0 rT = zI σ0 rT := rfl
  refine lv_aload_n hx hb dX6_append_0 rfl (lv_at hl 0 rfl) ?_
  refine lv_iconst (v := 0) hx hb dX6_append_1 (by decide) ?_
  have hTo := hT
  refine pf20_0 hx hb hg hown hK hT (hT.k t_this (by decide)) rfl (hg _ k1219) dX6_append_2 (fun H locs s2 hus2 hT => ?_)
  have ev1 : zI s2 this 13 = v1 := (zput_o hus2 (Or.inr (by decide))).trans ev1
  have R3 : RI κ s2 this := h0.put hus2 (hTo.k t_this (by decide)) (by decide)
  have B4 := R3.b
  rw [erW] at B4
  have K5 : zI s2 this 7 = zI σ0 this 7 := hT.eI t_this (by decide) rfl rfl
  have K5n : (zI s2 this 7).toInt = (zI σ0 this 7).toInt := by rw [K5]
  have J6 : zJ s2 rW = zJ σ0 rW := funext fun k => hT.eJ trW (by decide) rfl rfl
  have J6n : (zJ s2 (kR κ this 1) 4).toInt = (zJ σ0 rW 4).toInt := by rw [erW, J6]
  have P7 : zI s2 rP = zI σ0 rP := funext fun k => hT.eI trP (by decide) rfl rfl
  try simp only [K5, J6, P7] at B4
  have Y8 : zI s2 rT = zI σ0 rT := by first | (rw [show zI s2 rT = zI σ0 rT from zput_Io hus2 ((hTo.k trT (by decide)).ne (hTo.k t_this (by decide)) (by decide))]; exact b0) | rw [show zI s2 rT = zI σ0 rT from zput_Io hus2 ((hTo.k trT (by decide)).ne (hTo.k t_this (by decide)) (by decide))]
  have e9 : zI s2 this 0 = 0 := zput_at hus2
  refine lv_aload_n hx hb dX6_append_5 rfl (lv_at hl 0 rfl) ?_
  refine va_get (D := κ.1) (ci := 6) (v := .int (zI s2 this 13)) (C := RX6) (T := TX6) (N := 27) hx hb hg inX6 hown hK (hT.o20 (hT.k t_this (by decide))).one 0 rfl rfl 13 (by decide) (hg _ k1232) (fun _ h9 => h9) rfl dX6_append_6 ?_
  rw [ev1]
  refine lv_bipush (v := 20) hx hb dX6_append_9 (by decide) ?_
  refine lv_iadd hx hb dX6_append_11 ?_
  first | refine g_add (by omega) (by omega) (fun t10 ht10 => ?_) | refine lv_topi (fun t10 ht10 => ?_)
  refine lv_sipush (v := 700) hx hb dX6_append_12 (by decide) ?_
  refine lv_icmp_le (tgt := 20) hx hb dX6_append_15 (by decide) (fun c9 => ?_) (fun c9 => ?_)
  · have c1 := gi_le c9
    refine lv_aload_n hx hb dX6_append_20 rfl (lv_at hl 0 rfl) ?_
    refine lv_iload_n hx hb dX6_append_21 rfl (lv_at hl 1 rfl) ?_
    have cz11 : zI s2 this 13 = v1 := ev1
    have qq12 : (zI s2 this 13).toInt = v1.toInt := by rw [ev1]
    have hTo := hT
    refine tVv (n := 1) (As := [.int x1]) (rest := []) hx hb hml hown hg hT hK hX (X6s_four l κ s2 this x1  (hT.k t_this (by decide)) R3 (by omega) (by omega)) (fun _ _ h => h) (mwV k1305 k1307 k36 k92 k1308) ⟨rfl, by decide, by decide, by decide +kernel⟩ ⟨(Nat.le_of_ble_eq_true rfl), (Nat.le_of_ble_eq_true rfl)⟩ (hT.o20 (hT.k t_this (by decide))) rfl rfl hl.1 rfl (Nat.le_of_ble_eq_true rfl) dX6_append_22 zroom.rf (fun s14 H locs hφ hEs14 hT => ?_)
    obtain ⟨f16, f17, f18⟩ := hφ
    have B19 := f16.b
    rw [erW] at B19
    have K20 : zI s14 this 7 = zI σ0 this 7 := hT.eI t_this (by decide) rfl rfl
    have K20n : (zI s14 this 7).toInt = (zI σ0 this 7).toInt := by rw [K20]
    have J21 : zJ s14 rW = zJ σ0 rW := funext fun k => hT.eJ trW (by decide) rfl rfl
    have J21n : (zJ s14 (kR κ this 1) 4).toInt = (zJ σ0 rW 4).toInt := by rw [erW, J21]
    have P22 : zI s14 rP = zI σ0 rP := funext fun k => hT.eI trP (by decide) rfl rfl
    try simp only [K20, J21, P22] at B19
    try simp only [erW, erP, ix_0, ix_1, ix_2, ix_3, ix_4, ix_5, ix_6, ix_7, ix_8, ix_9, K5, J6, P7, K20, J21, P22] at f17
    try simp only [erW, erP, ix_0, ix_1, ix_2, ix_3, ix_4, ix_5, ix_6, ix_7, ix_8, ix_9, K5, J6, P7, K20, J21, P22] at f18
    rw [erT] at f18
    obtain ⟨v23, ev23⟩ : ∃ zz9 : Int32, zI s14 this 13 = zz9 := ⟨_, rfl⟩
    have qv23 : v23.toInt = (zI s14 this 13).toInt := by rw [ev23]
    rw [(show zI s14 this 13 = v23 from ev23)] at f17
    have Y24 : zI s14 rT = (byn tmb (zI σ0 rT) L9 x1 4) := by rw [f18, Y8, cz11, show v1.toInt.toNat = L9 from by omega]
    refine lv_aload_n hx hb dX6_append_25 rfl (lv_at hl 0 rfl) ?_
    refine lv_iload_n hx hb dX6_append_26 rfl (lv_at hl 2 rfl) ?_
    have cz25 : zI s14 this 13 = v23 := ev23
    have qq26 : (zI s14 this 13).toInt = v23.toInt := by rw [ev23]
    have hTo := hT
    refine tVv (n := 1) (As := [.int x2]) (rest := []) hx hb hml hown hg hT hK hX (X6s_four l κ s14 this x2  (hT.k t_this (by decide)) f16 (by omega) (by omega)) (fun _ _ h => h) (mwV k1305 k1307 k36 k92 k1308) ⟨rfl, by decide, by decide, by decide +kernel⟩ ⟨(Nat.le_of_ble_eq_true rfl), (Nat.le_of_ble_eq_true rfl)⟩ (hT.o20 (hT.k t_this (by decide))) rfl rfl hl.1 rfl (Nat.le_of_ble_eq_true rfl) dX6_append_27 zroom.rf (fun s28 H locs hφ hEs28 hT => ?_)
    obtain ⟨f30, f31, f32⟩ := hφ
    have B33 := f30.b
    rw [erW] at B33
    have K34 : zI s28 this 7 = zI σ0 this 7 := hT.eI t_this (by decide) rfl rfl
    have K34n : (zI s28 this 7).toInt = (zI σ0 this 7).toInt := by rw [K34]
    have J35 : zJ s28 rW = zJ σ0 rW := funext fun k => hT.eJ trW (by decide) rfl rfl
    have J35n : (zJ s28 (kR κ this 1) 4).toInt = (zJ σ0 rW 4).toInt := by rw [erW, J35]
    have P36 : zI s28 rP = zI σ0 rP := funext fun k => hT.eI trP (by decide) rfl rfl
    try simp only [K34, J35, P36] at B33
    try simp only [erW, erP, ix_0, ix_1, ix_2, ix_3, ix_4, ix_5, ix_6, ix_7, ix_8, ix_9, K20, J21, P22, K34, J35, P36] at f31
    try simp only [erW, erP, ix_0, ix_1, ix_2, ix_3, ix_4, ix_5, ix_6, ix_7, ix_8, ix_9, K20, J21, P22, K34, J35, P36] at f32
    rw [erT] at f32
    obtain ⟨v37, ev37⟩ : ∃ zz9 : Int32, zI s28 this 13 = zz9 := ⟨_, rfl⟩
    have qv37 : v37.toInt = (zI s28 this 13).toInt := by rw [ev37]
    rw [(show zI s28 this 13 = v37 from ev37)] at f31
    have Y38 : zI s28 rT = (byn tmb (byn tmb (zI σ0 rT) L9 x1 4) (L9 + 4) x2 4) := by rw [f32, Y24, cz25, show v23.toInt.toNat = (L9 + 4) from by omega]
    refine lv_aload_n hx hb dX6_append_30 rfl (lv_at hl 0 rfl) ?_
    refine lv_iload_n hx hb dX6_append_31 rfl (lv_at hl 3 rfl) ?_
    have cz39 : zI s28 this 13 = v37 := ev37
    have qq40 : (zI s28 this 13).toInt = v37.toInt := by rw [ev37]
    have hTo := hT
    refine tVv (n := 1) (As := [.int x3]) (rest := []) hx hb hml hown hg hT hK hX (X6s_four l κ s28 this x3  (hT.k t_this (by decide)) f30 (by omega) (by omega)) (fun _ _ h => h) (mwV k1305 k1307 k36 k92 k1308) ⟨rfl, by decide, by decide, by decide +kernel⟩ ⟨(Nat.le_of_ble_eq_true rfl), (Nat.le_of_ble_eq_true rfl)⟩ (hT.o20 (hT.k t_this (by decide))) rfl rfl hl.1 rfl (Nat.le_of_ble_eq_true rfl) dX6_append_32 zroom.rf (fun s42 H locs hφ hEs42 hT => ?_)
    obtain ⟨f44, f45, f46⟩ := hφ
    have B47 := f44.b
    rw [erW] at B47
    have K48 : zI s42 this 7 = zI σ0 this 7 := hT.eI t_this (by decide) rfl rfl
    have K48n : (zI s42 this 7).toInt = (zI σ0 this 7).toInt := by rw [K48]
    have J49 : zJ s42 rW = zJ σ0 rW := funext fun k => hT.eJ trW (by decide) rfl rfl
    have J49n : (zJ s42 (kR κ this 1) 4).toInt = (zJ σ0 rW 4).toInt := by rw [erW, J49]
    have P50 : zI s42 rP = zI σ0 rP := funext fun k => hT.eI trP (by decide) rfl rfl
    try simp only [K48, J49, P50] at B47
    try simp only [erW, erP, ix_0, ix_1, ix_2, ix_3, ix_4, ix_5, ix_6, ix_7, ix_8, ix_9, K34, J35, P36, K48, J49, P50] at f45
    try simp only [erW, erP, ix_0, ix_1, ix_2, ix_3, ix_4, ix_5, ix_6, ix_7, ix_8, ix_9, K34, J35, P36, K48, J49, P50] at f46
    rw [erT] at f46
    obtain ⟨v51, ev51⟩ : ∃ zz9 : Int32, zI s42 this 13 = zz9 := ⟨_, rfl⟩
    have qv51 : v51.toInt = (zI s42 this 13).toInt := by rw [ev51]
    rw [(show zI s42 this 13 = v51 from ev51)] at f45
    have Y52 : zI s42 rT = (byn tmb (byn tmb (byn tmb (zI σ0 rT) L9 x1 4) (L9 + 4) x2 4) (L9 + 8) x3 4) := by rw [f46, Y38, cz39, show v37.toInt.toNat = (L9 + 8) from by omega]
    refine lv_aload_n hx hb dX6_append_35 rfl (lv_at hl 0 rfl) ?_
    refine lv_iload hx hb dX6_append_36 (lv_at hl 4 rfl) ?_
    have cz53 : zI s42 this 13 = v51 := ev51
    have qq54 : (zI s42 this 13).toInt = v51.toInt := by rw [ev51]
    have hTo := hT
    refine tVv (n := 1) (As := [.int x4]) (rest := []) hx hb hml hown hg hT hK hX (X6s_four l κ s42 this x4  (hT.k t_this (by decide)) f44 (by omega) (by omega)) (fun _ _ h => h) (mwV k1305 k1307 k36 k92 k1308) ⟨rfl, by decide, by decide, by decide +kernel⟩ ⟨(Nat.le_of_ble_eq_true rfl), (Nat.le_of_ble_eq_true rfl)⟩ (hT.o20 (hT.k t_this (by decide))) rfl rfl hl.1 rfl (Nat.le_of_ble_eq_true rfl) dX6_append_38 zroom.rf (fun s56 H locs hφ hEs56 hT => ?_)
    obtain ⟨f58, f59, f60⟩ := hφ
    have B61 := f58.b
    rw [erW] at B61
    have K62 : zI s56 this 7 = zI σ0 this 7 := hT.eI t_this (by decide) rfl rfl
    have K62n : (zI s56 this 7).toInt = (zI σ0 this 7).toInt := by rw [K62]
    have J63 : zJ s56 rW = zJ σ0 rW := funext fun k => hT.eJ trW (by decide) rfl rfl
    have J63n : (zJ s56 (kR κ this 1) 4).toInt = (zJ σ0 rW 4).toInt := by rw [erW, J63]
    have P64 : zI s56 rP = zI σ0 rP := funext fun k => hT.eI trP (by decide) rfl rfl
    try simp only [K62, J63, P64] at B61
    try simp only [erW, erP, ix_0, ix_1, ix_2, ix_3, ix_4, ix_5, ix_6, ix_7, ix_8, ix_9, K48, J49, P50, K62, J63, P64] at f59
    try simp only [erW, erP, ix_0, ix_1, ix_2, ix_3, ix_4, ix_5, ix_6, ix_7, ix_8, ix_9, K48, J49, P50, K62, J63, P64] at f60
    rw [erT] at f60
    obtain ⟨v65, ev65⟩ : ∃ zz9 : Int32, zI s56 this 13 = zz9 := ⟨_, rfl⟩
    have qv65 : v65.toInt = (zI s56 this 13).toInt := by rw [ev65]
    rw [(show zI s56 this 13 = v65 from ev65)] at f59
    have Y66 : zI s56 rT = (byn tmb (byn tmb (byn tmb (byn tmb (zI σ0 rT) L9 x1 4) (L9 + 4) x2 4) (L9 + 8) x3 4) (L9 + 12) x4 4) := by rw [f60, Y52, cz53, show v51.toInt.toNat = (L9 + 12) from by omega]
    refine lv_aload_n hx hb dX6_append_41 rfl (lv_at hl 0 rfl) ?_
    refine lv_iload hx hb dX6_append_42 (lv_at hl 5 rfl) ?_
    have cz67 : zI s56 this 13 = v65 := ev65
    have qq68 : (zI s56 this 13).toInt = v65.toInt := by rw [ev65]
    have hTo := hT
    refine tVv (n := 1) (As := [.int x5]) (rest := []) hx hb hml hown hg hT hK hX (X6s_four l κ s56 this x5  (hT.k t_this (by decide)) f58 (by omega) (by omega)) (fun _ _ h => h) (mwV k1305 k1307 k36 k92 k1308) ⟨rfl, by decide, by decide, by decide +kernel⟩ ⟨(Nat.le_of_ble_eq_true rfl), (Nat.le_of_ble_eq_true rfl)⟩ (hT.o20 (hT.k t_this (by decide))) rfl rfl hl.1 rfl (Nat.le_of_ble_eq_true rfl) dX6_append_44 zroom.rf (fun s70 H locs hφ hEs70 hT => ?_)
    obtain ⟨f72, f73, f74⟩ := hφ
    have B75 := f72.b
    rw [erW] at B75
    have K76 : zI s70 this 7 = zI σ0 this 7 := hT.eI t_this (by decide) rfl rfl
    have K76n : (zI s70 this 7).toInt = (zI σ0 this 7).toInt := by rw [K76]
    have J77 : zJ s70 rW = zJ σ0 rW := funext fun k => hT.eJ trW (by decide) rfl rfl
    have J77n : (zJ s70 (kR κ this 1) 4).toInt = (zJ σ0 rW 4).toInt := by rw [erW, J77]
    have P78 : zI s70 rP = zI σ0 rP := funext fun k => hT.eI trP (by decide) rfl rfl
    try simp only [K76, J77, P78] at B75
    try simp only [erW, erP, ix_0, ix_1, ix_2, ix_3, ix_4, ix_5, ix_6, ix_7, ix_8, ix_9, K62, J63, P64, K76, J77, P78] at f73
    try simp only [erW, erP, ix_0, ix_1, ix_2, ix_3, ix_4, ix_5, ix_6, ix_7, ix_8, ix_9, K62, J63, P64, K76, J77, P78] at f74
    rw [erT] at f74
    obtain ⟨v79, ev79⟩ : ∃ zz9 : Int32, zI s70 this 13 = zz9 := ⟨_, rfl⟩
    have qv79 : v79.toInt = (zI s70 this 13).toInt := by rw [ev79]
    rw [(show zI s70 this 13 = v79 from ev79)] at f73
    have Y80 : zI s70 rT = (byn tmb (byn tmb (byn tmb (byn tmb (byn tmb (zI σ0 rT) L9 x1 4) (L9 + 4) x2 4) (L9 + 8) x3 4) (L9 + 12) x4 4) (L9 + 16) x5 4) := by rw [f74, Y66, cz67, show v65.toInt.toNat = (L9 + 16) from by omega]
    refine lv_aload_n hx hb dX6_append_47 rfl (lv_at hl 0 rfl) ?_
    refine va_get (D := κ.1) (ci := 6) (v := .int (zI s70 this 13)) (C := RX6) (T := TX6) (N := 27) hx hb hg inX6 hown hK (hT.o20 (hT.k t_this (by decide))).one 0 rfl rfl 13 (by decide) (hg _ k1232) (fun _ h9 => h9) rfl dX6_append_48 ?_
    rw [ev79]
    subst hQ9
    exact t_i hx hb hr hlocks hT ⟨f72, Or.inl ⟨by omega, by omega, by rw [(show zI s70 this 13 = v79 from ev79)]; omega, by rw [erT, hL9, Y80]; rfl⟩⟩ dX6_append_51
  · have c2 := gi_nle c9
    refine lv_iconst (v := (-1)) hx hb dX6_append_18 (by decide) ?_
    subst hQ9
    exact t_i hx hb hr hlocks hT ⟨R3, Or.inr ⟨by omega, by omega, by rw [(show zI s2 this 13 = v1 from ev1)]; omega, by rw [erT]; exact Y8⟩⟩ dX6_append_19
set_option maxHeartbeats 4000000 in
set_option maxRecDepth 100000 in
theorem X6s_errorCode (l : Launch) (κ : Kt) (σ0 : Gh) (this : Nat) (t_this : zk σ0 this 20) (h0 : RI κ σ0 this) : TC l yX6_errorCode cX6_errorCode 1 (some .int) 0 0 [.ref this] κ σ0 (tqi κ gR σ0 (fun (r : Int32) (τ : Gh) => (r = zI σ0 this 15))) := by
  refine TC.of gR (by decide +kernel) (Nat.le_of_ble_eq_true rfl) ?_
  intro p e s m below meth c ls hcs hK hX hT hl
  obtain ⟨hx, hb, hr, hml, hown, hg, hlocks, hin⟩ := hcs
  have hown : s.vm.findClass RX6 = some m.cls := hown
  have hl : lv_has ls 1 [(0, .ref this)] := hl
  have hT0 := hT
  have n0 : (0 : Int32).toInt = 0 := by decide
  generalize hQ9 : tQ _ _ _ _ _ _ = Q9
  obtain ⟨rW, erW⟩ : ∃ z, kR κ this 1 = z := ⟨_, rfl⟩
  have trW : zk σ0 rW 21 := by rw [← erW]; exact h0.1.2.1
  obtain ⟨rP, erP⟩ : ∃ z, kR κ this 5 = z := ⟨_, rfl⟩
  have trP : zk σ0 rP 25 := by rw [← erP]; exact h0.1.2.2.2.2
  have hB0 := h0.b
  rw [erW] at hB0
  have hW := h0.2.1
  rw [erW] at hW
  have hP := h0.2.2.1
  rw [erP] at hP
  have hrN : (rN σ0 this : Int) = (zI σ0 this 7).toInt := by unfold rN; omega
  refine lv_aload_n hx hb dX6_errorCode_0 rfl (lv_at hl 0 rfl) ?_
  refine lv_iconst (v := 0) hx hb dX6_errorCode_1 (by decide) ?_
  have hTo := hT
  refine pf20_0 hx hb hg hown hK hT (hT.k t_this (by decide)) rfl (hg _ k1219) dX6_errorCode_2 (fun H locs s1 hus1 hT => ?_)
  have e2 : zI s1 this 0 = 0 := zput_at hus1
  refine lv_aload_n hx hb dX6_errorCode_5 rfl (lv_at hl 0 rfl) ?_
  obtain ⟨v3, ev3⟩ : ∃ zz9 : Int32, zI σ0 this 15 = zz9 := ⟨_, rfl⟩
  have qv3 : v3.toInt = (zI σ0 this 15).toInt := by rw [ev3]
  refine va_get (D := κ.1) (ci := 6) (v := .int (zI s1 this 15)) (C := RX6) (T := TX6) (N := 27) hx hb hg inX6 hown hK (hT.o20 (hT.k t_this (by decide))).one 0 rfl rfl 15 (by decide) (hg _ k1234) (fun _ h9 => h9) rfl dX6_errorCode_6 ?_
  rw [(hT.eI t_this (by decide) rfl ev3)]
  subst hQ9
  exact t_i hx hb hr hlocks hT ev3.symm dX6_errorCode_9
set_option maxHeartbeats 4000000 in
set_option maxRecDepth 100000 in
theorem X6s_errorPosition (l : Launch) (κ : Kt) (σ0 : Gh) (this : Nat) (t_this : zk σ0 this 20) (h0 : RI κ σ0 this) : TC l yX6_errorPosition cX6_errorPosition 1 (some .int) 0 0 [.ref this] κ σ0 (tqi κ gR σ0 (fun (r : Int32) (τ : Gh) => (r = zI σ0 this 16))) := by
  refine TC.of gR (by decide +kernel) (Nat.le_of_ble_eq_true rfl) ?_
  intro p e s m below meth c ls hcs hK hX hT hl
  obtain ⟨hx, hb, hr, hml, hown, hg, hlocks, hin⟩ := hcs
  have hown : s.vm.findClass RX6 = some m.cls := hown
  have hl : lv_has ls 1 [(0, .ref this)] := hl
  have hT0 := hT
  have n0 : (0 : Int32).toInt = 0 := by decide
  generalize hQ9 : tQ _ _ _ _ _ _ = Q9
  obtain ⟨rW, erW⟩ : ∃ z, kR κ this 1 = z := ⟨_, rfl⟩
  have trW : zk σ0 rW 21 := by rw [← erW]; exact h0.1.2.1
  obtain ⟨rP, erP⟩ : ∃ z, kR κ this 5 = z := ⟨_, rfl⟩
  have trP : zk σ0 rP 25 := by rw [← erP]; exact h0.1.2.2.2.2
  have hB0 := h0.b
  rw [erW] at hB0
  have hW := h0.2.1
  rw [erW] at hW
  have hP := h0.2.2.1
  rw [erP] at hP
  have hrN : (rN σ0 this : Int) = (zI σ0 this 7).toInt := by unfold rN; omega
  refine lv_aload_n hx hb dX6_errorPosition_0 rfl (lv_at hl 0 rfl) ?_
  refine lv_iconst (v := 0) hx hb dX6_errorPosition_1 (by decide) ?_
  have hTo := hT
  refine pf20_0 hx hb hg hown hK hT (hT.k t_this (by decide)) rfl (hg _ k1219) dX6_errorPosition_2 (fun H locs s1 hus1 hT => ?_)
  have e2 : zI s1 this 0 = 0 := zput_at hus1
  refine lv_aload_n hx hb dX6_errorPosition_5 rfl (lv_at hl 0 rfl) ?_
  obtain ⟨v3, ev3⟩ : ∃ zz9 : Int32, zI σ0 this 16 = zz9 := ⟨_, rfl⟩
  have qv3 : v3.toInt = (zI σ0 this 16).toInt := by rw [ev3]
  refine va_get (D := κ.1) (ci := 6) (v := .int (zI s1 this 16)) (C := RX6) (T := TX6) (N := 27) hx hb hg inX6 hown hK (hT.o20 (hT.k t_this (by decide))).one 0 rfl rfl 16 (by decide) (hg _ k1235) (fun _ h9 => h9) rfl dX6_errorPosition_6 ?_
  rw [(hT.eI t_this (by decide) rfl ev3)]
  subst hQ9
  exact t_i hx hb hr hlocks hT ev3.symm dX6_errorPosition_9
set_option maxHeartbeats 4000000 in
set_option maxRecDepth 100000 in
theorem X6s_fails (l : Launch) (κ : Kt) (σ0 : Gh) (this : Nat) (i : Int32) (t_this : zk σ0 this 20) (h0 : RI κ σ0 this) : TC l yX6_fails cX6_fails 2 (some .int) 0 0 [.ref this, .int i] κ σ0 (tqi κ gR σ0 (fun (r : Int32) (τ : Gh) => (r.toInt = 0) ∧ ((zI τ this 0).toInt = i.toInt))) := by
  refine TC.of gR (by decide +kernel) (Nat.le_of_ble_eq_true rfl) ?_
  intro p e s m below meth c ls hcs hK hX hT hl
  obtain ⟨hx, hb, hr, hml, hown, hg, hlocks, hin⟩ := hcs
  have hown : s.vm.findClass RX6 = some m.cls := hown
  have hl : lv_has ls 2 [(0, .ref this), (1, .int i)] := hl
  have hT0 := hT
  have n0 : (0 : Int32).toInt = 0 := by decide
  have i_lo := Int32.le_toInt i
  have i_hi := Int32.toInt_lt i
  generalize hQ9 : tQ _ _ _ _ _ _ = Q9
  obtain ⟨rW, erW⟩ : ∃ z, kR κ this 1 = z := ⟨_, rfl⟩
  have trW : zk σ0 rW 21 := by rw [← erW]; exact h0.1.2.1
  obtain ⟨rP, erP⟩ : ∃ z, kR κ this 5 = z := ⟨_, rfl⟩
  have trP : zk σ0 rP 25 := by rw [← erP]; exact h0.1.2.2.2.2
  have hB0 := h0.b
  rw [erW] at hB0
  have hW := h0.2.1
  rw [erW] at hW
  have hP := h0.2.2.1
  rw [erP] at hP
  have hrN : (rN σ0 this : Int) = (zI σ0 this 7).toInt := by unfold rN; omega
  refine lv_aload_n hx hb dX6_fails_0 rfl (lv_at hl 0 rfl) ?_
  refine lv_iload_n hx hb dX6_fails_1 rfl (lv_at hl 1 rfl) ?_
  have hTo := hT
  refine pf20_0 hx hb hg hown hK hT (hT.k t_this (by decide)) rfl (hg _ k1219) dX6_fails_2 (fun H locs s1 hus1 hT => ?_)
  have e2 : zI s1 this 0 = i := zput_at hus1
  refine lv_iconst (v := 0) hx hb dX6_fails_5 (by decide) ?_
  subst hQ9
  exact t_i hx hb hr hlocks hT ⟨n0, by rw [(show zI s1 this 0 = i from e2)]⟩ dX6_fails_6
set_option maxHeartbeats 4000000 in
set_option maxRecDepth 100000 in
theorem X6s_takesText (l : Launch) (κ : Kt) (σ0 : Gh) (this : Nat) (t_this : zk σ0 this 20) (h0 : 0 ≤ (zI σ0 this 13).toInt) (h1 : (zI σ0 this 13).toInt ≤ 700) (h2 : 2 ≤ (zI σ0 this 18).toInt) (h3 : (zI σ0 this 18).toInt ≤ 48) (h4 : PL (zI σ0 this 18).toInt.toNat (zI σ0 (kR κ this 25))) : TC l yX6_takesText cX6_takesText 2 none 1 23 [.ref this] κ σ0 (tqv κ gTT σ0 (fun (τ : Gh) => (RI κ τ this) ∧ (zI τ (kR κ this 4) 0 = 0) ∧ (zI τ (kR κ this 4) 1 = 0) ∧ (zI τ this 7 = zI σ0 this 18) ∧ ((zJ τ (kR κ this 1) 0).toInt = (zI σ0 this 20).toInt) ∧ ((zJ τ (kR κ this 1) 1).toInt = (zI σ0 this 21).toInt) ∧ ((zJ τ (kR κ this 1) 2).toInt = (zI σ0 this 22).toInt))) := by
  refine TC.of gTT (by decide +kernel) (Nat.le_of_ble_eq_true rfl) ?_
  intro p e s m below meth c ls hcs hK hX hT hl
  obtain ⟨hx, hb, hr, hml, hown, hg, hlocks, hin⟩ := hcs
  have hown : s.vm.findClass RX6 = some m.cls := hown
  have hl : lv_has ls 2 [(0, .ref this)] := hl
  have hT0 := hT
  have n0 : (0 : Int32).toInt = 0 := by decide
  have n1 : (1 : Int32).toInt = 1 := by decide
  have n2 : (2 : Int32).toInt = 2 := by decide
  generalize hQ9 : tQ _ _ _ _ _ _ = Q9
  obtain ⟨rW, erW⟩ : ∃ z, kR κ this 1 = z := ⟨_, rfl⟩
  have trW : zk σ0 rW 21 := by rw [← erW]; exact hT0.ref t_this (by decide) (by decide) (by decide)
  obtain ⟨rP, erP⟩ : ∃ z, kR κ this 5 = z := ⟨_, rfl⟩
  have trP : zk σ0 rP 25 := by rw [← erP]; exact hT0.ref t_this (by decide) (by decide) (by decide)
  obtain ⟨rQ, erQ⟩ : ∃ z, kR κ this 25 = z := ⟨_, rfl⟩
  have trQ : zk σ0 rQ 27 := by rw [← erQ]; exact hT0.ref t_this (by decide) (by decide) (by decide)
  rw [erQ] at h4
  obtain ⟨v1, ev1⟩ : ∃ zz9 : Int32, zI σ0 this 18 = zz9 := ⟨_, rfl⟩
  have qv1 : v1.toInt = (zI σ0 this 18).toInt := by rw [ev1]
  have wv0_0 : zJ σ0 rW 0 = zJ σ0 rW 0 := rfl
  have wv1_0 : zJ σ0 rW 1 = zJ σ0 rW 1 := rfl
  have wv2_0 : zJ σ0 rW 2 = zJ σ0 rW 2 := rfl
  refine lv_aload_n hx hb dX6_takesText_0 rfl (lv_at hl 0 rfl) ?_
  refine lv_aload_n hx hb dX6_takesText_1 rfl (lv_at hl 0 rfl) ?_
  refine va_get (D := κ.1) (ci := 6) (v := .int (zI σ0 this 18)) (C := RX6) (T := TX6) (N := 27) hx hb hg inX6 hown hK (hT.o20 (hT.k t_this (by decide))).one 0 rfl rfl 18 (by decide) (hg _ k1237) (fun _ h9 => h9) rfl dX6_takesText_2 ?_
  rw [(hT.eI t_this (by decide) rfl ev1)]
  have hTo := hT
  refine pf20_7 hx hb hg hown hK hT (hT.k t_this (by decide)) rfl (hg _ k1226) dX6_takesText_5 (fun H locs s2 hus2 hT => ?_)
  have wv3 : zJ s2 rW 0 = zJ σ0 rW 0 := (congrFun (zput_J (x := rW) hus2) 0).trans wv0_0
  have wv4 : zJ s2 rW 1 = zJ σ0 rW 1 := (congrFun (zput_J (x := rW) hus2) 1).trans wv1_0
  have wv5 : zJ s2 rW 2 = zJ σ0 rW 2 := (congrFun (zput_J (x := rW) hus2) 2).trans wv2_0
  have e6 : zI s2 this 7 = v1 := zput_at hus2
  refine lv_aload_n hx hb dX6_takesText_8 rfl (lv_at hl 0 rfl) ?_
  refine lv_aload_n hx hb dX6_takesText_9 rfl (lv_at hl 0 rfl) ?_
  obtain ⟨v7, ev7⟩ : ∃ zz9 : Int32, zI σ0 this 19 = zz9 := ⟨_, rfl⟩
  have qv7 : v7.toInt = (zI σ0 this 19).toInt := by rw [ev7]
  refine va_get (D := κ.1) (ci := 6) (v := .int (zI s2 this 19)) (C := RX6) (T := TX6) (N := 27) hx hb hg inX6 hown hK (hT.o20 (hT.k t_this (by decide))).one 0 rfl rfl 19 (by decide) (hg _ k1238) (fun _ h9 => h9) rfl dX6_takesText_10 ?_
  rw [(hT.eI t_this (by decide) rfl ev7)]
  have hTo := hT
  refine pf20_8 hx hb hg hown hK hT (hT.k t_this (by decide)) rfl (hg _ k1227) dX6_takesText_13 (fun H locs s8 hus8 hT => ?_)
  have e6 : zI s8 this 7 = v1 := (zput_o hus8 (Or.inr (by decide))).trans e6
  have wv9 : zJ s8 rW 0 = zJ σ0 rW 0 := (congrFun (zput_J (x := rW) hus8) 0).trans wv3
  have wv10 : zJ s8 rW 1 = zJ σ0 rW 1 := (congrFun (zput_J (x := rW) hus8) 1).trans wv4
  have wv11 : zJ s8 rW 2 = zJ σ0 rW 2 := (congrFun (zput_J (x := rW) hus8) 2).trans wv5
  have e12 : zI s8 this 8 = v7 := zput_at hus8
  refine lv_iconst (v := 0) hx hb dX6_takesText_16 (by decide) ?_
  refine lv_istore_n (lv' := [(1, .int 0), (0, .ref this)]) hx hb dX6_takesText_17 rfl hl (by decide) rfl (fun ls hl => ?_)
  have loop18 : ∀ (n9 : Nat) (k : Int32) (H : Heap) (locs : List Loc) (sg : Gh) (ls : Array Slot), TS κ gTT σ0 sg s H locs → (zI sg this 7 = v1) → (0 ≤ k.toInt) → (k.toInt ≤ (v1 : Int32).toInt) → (∀ j : Nat, j < ix k → zI sg rP j = zI σ0 rQ j) → lv_has ls 2 [(1, .int k), (0, .ref this)] → (48 - k.toInt) < n9 → tW p l e 1 23 κ s m #[.ref this] below meth c H locs Q9 (F0 m 18 ls []) := by
    intro n9
    induction n9 with
    | zero =>
      intro k H locs sg ls hT kthis_7 q1 q2 q3 hl hm9
      exfalso
      omega
    | succ n9 ih9 =>
      have ih18 := ih9
      clear ih9
      intro k H locs s13 ls hT kthis_7 q1 q2 q3 hl hm9
      refine lv_iload_n hx hb dX6_takesText_18 rfl (lv_at hl 0 rfl) ?_
      refine lv_aload_n hx hb dX6_takesText_19 rfl (lv_at hl 1 rfl) ?_
      refine va_get (D := κ.1) (ci := 6) (v := .int (zI s13 this 7)) (C := RX6) (T := TX6) (N := 27) hx hb hg inX6 hown hK (hT.o20 (hT.k t_this (by decide))).one 0 rfl rfl 7 (by decide) (hg _ k1226) (fun _ h9 => h9) rfl dX6_takesText_20 ?_
      rw [kthis_7]
      refine lv_icmp_ge (tgt := 56) hx hb dX6_takesText_23 (by decide) (fun c9 => ?_) (fun c9 => ?_)
      · have c1 := gi_le c9
        refine lv_aload_n hx hb dX6_takesText_56 rfl (lv_at hl 1 rfl) ?_
        refine va_get (D := κ.1) (ci := 6) (v := .ref (kR κ this 1)) (C := RX6) (T := TX6) (N := 27) hx hb hg inX6 hown hK (hT.o20 (hT.k t_this (by decide))).one 0 rfl rfl 1 (by decide) (hg _ k1220) (fun _ h9 => h9) rfl dX6_takesText_57 ?_
        rw [erW]
        refine lv_iconst (v := 0) hx hb dX6_takesText_60 (by decide) ?_
        refine lv_aload_n hx hb dX6_takesText_61 rfl (lv_at hl 1 rfl) ?_
        obtain ⟨v14, ev14⟩ : ∃ zz9 : Int32, zI σ0 this 20 = zz9 := ⟨_, rfl⟩
        have qv14 : v14.toInt = (zI σ0 this 20).toInt := by rw [ev14]
        refine va_get (D := κ.1) (ci := 6) (v := .int (zI s13 this 20)) (C := RX6) (T := TX6) (N := 27) hx hb hg inX6 hown hK (hT.o20 (hT.k t_this (by decide))).one 0 rfl rfl 20 (by decide) (hg _ k1239) (fun _ h9 => h9) rfl dX6_takesText_62 ?_
        rw [(hT.eI t_this (by decide) rfl ev14)]
        refine lv_i2l hx hb dX6_takesText_65 rfl ?_
        refine g_i2l (fun t15 ht15 => ?_)
        have hTo := hT
        refine tastl (n := 609) hx hb hK hT (hT.k trW (by decide)) ⟨by decide, by decide⟩ (fun _ _ _ => rfl) (fun _ _ => trivial) (fun _ => rfl) (by omega) (by omega) dX6_takesText_66 (fun H locs s16 hus16 hT => ?_)
        have kthis_7 : zI s16 this 7 = v1 := by rw [zpul_I hus16]; exact kthis_7
        have wv17 : zJ s16 rW 0 = t15 := by rw [zpul_Ja hus16]; exact if_pos (by decide)
        have Y18 : ∀ j : Nat, j < ix k → zI s16 rP j = zI σ0 rQ j := by first | (rw [show zI s16 rP = zI s13 rP from (zpul_I hus16)]; exact q3) | rw [show zI s16 rP = zI s13 rP from (zpul_I hus16)]
        refine lv_aload_n hx hb dX6_takesText_67 rfl (lv_at hl 1 rfl) ?_
        refine va_get (D := κ.1) (ci := 6) (v := .ref (kR κ this 1)) (C := RX6) (T := TX6) (N := 27) hx hb hg inX6 hown hK (hT.o20 (hT.k t_this (by decide))).one 0 rfl rfl 1 (by decide) (hg _ k1220) (fun _ h9 => h9) rfl dX6_takesText_68 ?_
        rw [erW]
        refine lv_iconst (v := 1) hx hb dX6_takesText_71 (by decide) ?_
        refine lv_aload_n hx hb dX6_takesText_72 rfl (lv_at hl 1 rfl) ?_
        obtain ⟨v19, ev19⟩ : ∃ zz9 : Int32, zI σ0 this 21 = zz9 := ⟨_, rfl⟩
        have qv19 : v19.toInt = (zI σ0 this 21).toInt := by rw [ev19]
        refine va_get (D := κ.1) (ci := 6) (v := .int (zI s16 this 21)) (C := RX6) (T := TX6) (N := 27) hx hb hg inX6 hown hK (hT.o20 (hT.k t_this (by decide))).one 0 rfl rfl 21 (by decide) (hg _ k1240) (fun _ h9 => h9) rfl dX6_takesText_73 ?_
        rw [(hT.eI t_this (by decide) rfl ev19)]
        refine lv_i2l hx hb dX6_takesText_76 rfl ?_
        refine g_i2l (fun t20 ht20 => ?_)
        have hTo := hT
        refine tastl (n := 609) hx hb hK hT (hT.k trW (by decide)) ⟨by decide, by decide⟩ (fun _ _ _ => rfl) (fun _ _ => trivial) (fun _ => rfl) (by omega) (by omega) dX6_takesText_77 (fun H locs s21 hus21 hT => ?_)
        have kthis_7 : zI s21 this 7 = v1 := by rw [zpul_I hus21]; exact kthis_7
        have wv22 : zJ s21 rW 0 = t15 := (show zJ s21 rW 0 = zJ s16 rW 0 from by rw [zpul_Ja hus21]; exact if_neg (show 0 ≠ ix 1 from by decide)).trans wv17
        have wv23 : zJ s21 rW 1 = t20 := by rw [zpul_Ja hus21]; exact if_pos (by decide)
        have Y24 : ∀ j : Nat, j < ix k → zI s21 rP j = zI σ0 rQ j := by first | (rw [show zI s21 rP = zI s16 rP from (zpul_I hus21)]; exact Y18) | rw [show zI s21 rP = zI s16 rP from (zpul_I hus21)]
        refine lv_aload_n hx hb dX6_takesText_78 rfl (lv_at hl 1 rfl) ?_
        refine va_get (D := κ.1) (ci := 6) (v := .ref (kR κ this 1)) (C := RX6) (T := TX6) (N := 27) hx hb hg inX6 hown hK (hT.o20 (hT.k t_this (by decide))).one 0 rfl rfl 1 (by decide) (hg _ k1220) (fun _ h9 => h9) rfl dX6_takesText_79 ?_
        rw [erW]
        refine lv_iconst (v := 2) hx hb dX6_takesText_82 (by decide) ?_
        refine lv_aload_n hx hb dX6_takesText_83 rfl (lv_at hl 1 rfl) ?_
        obtain ⟨v25, ev25⟩ : ∃ zz9 : Int32, zI σ0 this 22 = zz9 := ⟨_, rfl⟩
        have qv25 : v25.toInt = (zI σ0 this 22).toInt := by rw [ev25]
        refine va_get (D := κ.1) (ci := 6) (v := .int (zI s21 this 22)) (C := RX6) (T := TX6) (N := 27) hx hb hg inX6 hown hK (hT.o20 (hT.k t_this (by decide))).one 0 rfl rfl 22 (by decide) (hg _ k1241) (fun _ h9 => h9) rfl dX6_takesText_84 ?_
        rw [(hT.eI t_this (by decide) rfl ev25)]
        refine lv_i2l hx hb dX6_takesText_87 rfl ?_
        refine g_i2l (fun t26 ht26 => ?_)
        have hTo := hT
        refine tastl (n := 609) hx hb hK hT (hT.k trW (by decide)) ⟨by decide, by decide⟩ (fun _ _ _ => rfl) (fun _ _ => trivial) (fun _ => rfl) (by omega) (by omega) dX6_takesText_88 (fun H locs s27 hus27 hT => ?_)
        have kthis_7 : zI s27 this 7 = v1 := by rw [zpul_I hus27]; exact kthis_7
        have wv28 : zJ s27 rW 0 = t15 := (show zJ s27 rW 0 = zJ s21 rW 0 from by rw [zpul_Ja hus27]; exact if_neg (show 0 ≠ ix 2 from by decide)).trans wv22
        have wv29 : zJ s27 rW 1 = t20 := (show zJ s27 rW 1 = zJ s21 rW 1 from by rw [zpul_Ja hus27]; exact if_neg (show 1 ≠ ix 2 from by decide)).trans wv23
        have wv30 : zJ s27 rW 2 = t26 := by rw [zpul_Ja hus27]; exact if_pos (by decide)
        have Y31 : ∀ j : Nat, j < ix k → zI s27 rP j = zI σ0 rQ j := by first | (rw [show zI s27 rP = zI s21 rP from (zpul_I hus27)]; exact Y24) | rw [show zI s27 rP = zI s21 rP from (zpul_I hus27)]
        refine lv_aload_n hx hb dX6_takesText_89 rfl (lv_at hl 1 rfl) ?_
        have e7a : zI s27 this 7 = v1 := kthis_7
        have hTo := hT
        refine tVv (n := 0) (As := []) (rest := []) hx hb hml hown hg hT hK hX (X6_anew l κ s27 this  (hT.k t_this (by decide)) (by rw [erP, show rN s27 this = (zI σ0 this 18).toInt.toNat from by unfold rN; rw [(show zI s27 this 7 = v1 from kthis_7), ev1]]; exact h4.congr (fun j hj => Y31 j (by rw [ev1] at hj; unfold ix; omega))) (by rw [(show zI s27 this 7 = v1 from kthis_7)]; omega) (by rw [(show zI s27 this 7 = v1 from kthis_7)]; omega)) sub_gW_gTT (mwV k1214 k1216 k35 k92 k1217) ⟨rfl, by decide, by decide, by decide +kernel⟩ ⟨(Nat.le_of_ble_eq_true rfl), (Nat.le_of_ble_eq_true rfl)⟩ (hT.o20 (hT.k t_this (by decide))) rfl rfl hl.1 rfl (Nat.le_of_ble_eq_true rfl) dX6_takesText_90 zroom.rf (fun s33 H locs hφ hEs33 hT => ?_)
        have kthis_7 : zI s33 this 7 = v1 := ((hTo.k t_this (by decide)).eI hEs33 (by decide) rfl).trans kthis_7
        have wv34 : zJ s33 rW 0 = t15 := ((hTo.k trW (by decide)).eJ hEs33 (by decide) (lt3_gW 0 (by decide))).trans wv28
        have wv35 : zJ s33 rW 1 = t20 := ((hTo.k trW (by decide)).eJ hEs33 (by decide) (lt3_gW 1 (by decide))).trans wv29
        have wv36 : zJ s33 rW 2 = t26 := ((hTo.k trW (by decide)).eJ hEs33 (by decide) (lt3_gW 2 (by decide))).trans wv30
        have Y37 : ∀ j : Nat, j < ix k → zI s33 rP j = zI σ0 rQ j := by first | (rw [show zI s33 rP = zI s27 rP from funext fun k => (hTo.k trP (by decide)).eI hEs33 (by decide) rfl]; exact Y31) | rw [show zI s33 rP = zI s27 rP from funext fun k => (hTo.k trP (by decide)).eI hEs33 (by decide) rfl]
        have f38 := hφ
        try simp only [erW, erP, ix_0, ix_1, ix_2, ix_3, ix_4, ix_5, ix_6, ix_7, ix_8, ix_9] at f38
        refine lv_aload_n hx hb dX6_takesText_93 rfl (lv_at hl 1 rfl) ?_
        obtain ⟨r39, er39⟩ : ∃ z, kR κ this 4 = z := ⟨_, rfl⟩
        have tr39 : zk σ0 r39 29 := by rw [← er39]; exact hT0.ref t_this (by decide) (by decide) (by decide)
        refine va_get (D := κ.1) (ci := 6) (v := .ref (kR κ this 4)) (C := RX6) (T := TX6) (N := 27) hx hb hg inX6 hown hK (hT.o20 (hT.k t_this (by decide))).one 0 rfl rfl 4 (by decide) (hg _ k1223) (fun _ h9 => h9) rfl dX6_takesText_94 ?_
        rw [er39]
        refine lv_iconst (v := 0) hx hb dX6_takesText_97 (by decide) ?_
        refine lv_iconst (v := 0) hx hb dX6_takesText_98 (by decide) ?_
        have hTo := hT
        refine tastz (n := 2) hx hb hK hT (hT.k tr39 (by decide)) ⟨by decide, by decide⟩ (fun _ _ _ => rfl) (fun _ _ => trivial) (fun _ => rfl) (by omega) (by omega) dX6_takesText_99 (fun H locs s40 hus40 hT => ?_)
        have kthis_7 : zI s40 this 7 = v1 := (zput_o hus40 (Or.inl ((hTo.k t_this (by decide)).ne (hTo.k tr39 (by decide)) (by decide)))).trans kthis_7
        have wv41 : zJ s40 rW 0 = t15 := (congrFun (zput_J (x := rW) hus40) 0).trans wv34
        have wv42 : zJ s40 rW 1 = t20 := (congrFun (zput_J (x := rW) hus40) 1).trans wv35
        have wv43 : zJ s40 rW 2 = t26 := (congrFun (zput_J (x := rW) hus40) 2).trans wv36
        have Y44 : ∀ j : Nat, j < ix k → zI s40 rP j = zI σ0 rQ j := by first | (rw [show zI s40 rP = zI s33 rP from zput_Io hus40 ((hTo.k trP (by decide)).ne (hTo.k tr39 (by decide)) (by decide))]; exact Y37) | rw [show zI s40 rP = zI s33 rP from zput_Io hus40 ((hTo.k trP (by decide)).ne (hTo.k tr39 (by decide)) (by decide))]
        refine lv_aload_n hx hb dX6_takesText_100 rfl (lv_at hl 1 rfl) ?_
        refine va_get (D := κ.1) (ci := 6) (v := .ref (kR κ this 4)) (C := RX6) (T := TX6) (N := 27) hx hb hg inX6 hown hK (hT.o20 (hT.k t_this (by decide))).one 0 rfl rfl 4 (by decide) (hg _ k1223) (fun _ h9 => h9) rfl dX6_takesText_101 ?_
        rw [er39]
        refine lv_iconst (v := 1) hx hb dX6_takesText_104 (by decide) ?_
        refine lv_iconst (v := 0) hx hb dX6_takesText_105 (by decide) ?_
        have hTo := hT
        refine tastz (n := 2) hx hb hK hT (hT.k tr39 (by decide)) ⟨by decide, by decide⟩ (fun _ _ _ => rfl) (fun _ _ => trivial) (fun _ => rfl) (by omega) (by omega) dX6_takesText_106 (fun H locs s45 hus45 hT => ?_)
        have kthis_7 : zI s45 this 7 = v1 := (zput_o hus45 (Or.inl ((hTo.k t_this (by decide)).ne (hTo.k tr39 (by decide)) (by decide)))).trans kthis_7
        have wv46 : zJ s45 rW 0 = t15 := (congrFun (zput_J (x := rW) hus45) 0).trans wv41
        have wv47 : zJ s45 rW 1 = t20 := (congrFun (zput_J (x := rW) hus45) 1).trans wv42
        have wv48 : zJ s45 rW 2 = t26 := (congrFun (zput_J (x := rW) hus45) 2).trans wv43
        have Y49 : ∀ j : Nat, j < ix k → zI s45 rP j = zI σ0 rQ j := by first | (rw [show zI s45 rP = zI s40 rP from zput_Io hus45 ((hTo.k trP (by decide)).ne (hTo.k tr39 (by decide)) (by decide))]; exact Y44) | rw [show zI s45 rP = zI s40 rP from zput_Io hus45 ((hTo.k trP (by decide)).ne (hTo.k tr39 (by decide)) (by decide))]
        have z0 : zI s40 r39 (ix 0) = 0 := zput_at hus40
        have z1 : zI s45 r39 (ix 1) = 0 := zput_at hus45
        have z2 : zI s45 r39 (ix 0) = 0 := (zput_o hus45 (Or.inr (by decide))).trans z0
        rw [ix_0] at z2
        rw [ix_1] at z1
        have z3 : WI (rN s45 this) (zJ s45 rW) := by have z9 := f38; rw [← (show rN s45 this = rN s27 this from by unfold rN; rw [(show zI s45 this 7 = v1 from kthis_7), e7a]), ← zput_J (x := rW) hus40, ← zput_J (x := rW) hus45] at z9; exact z9
        subst hQ9
        exact t_v hx hb hr hlocks hT ⟨(RI.fresh0 ⟨hT.k t_this (by decide), by rw [erW]; exact hT.k trW (by decide), hT0.ref3 hT t_this, hT0.ref4 hT t_this, by rw [erP]; exact hT.k trP (by decide)⟩ (by rw [erW]; exact z3) (by rw [erP, show rN s45 this = (zI σ0 this 18).toInt.toNat from by unfold rN; rw [(show zI s45 this 7 = v1 from kthis_7), ev1]]; exact h4.congr (fun j hj => Y49 j (by rw [ev1] at hj; unfold ix; omega))) (by rw [er39]; exact ⟨z2, z1⟩) (by rw [hT.eI t_this (by decide) rfl rfl]; exact ⟨h0, h1⟩)), by rw [er39]; exact z2, by rw [er39]; exact z1, kthis_7.trans ev1.symm, by rw [erW, wv46]; omega, by rw [erW, wv47]; omega, by rw [erW, wv48]; omega⟩ dX6_takesText_107
      · have c2 := gi_nle c9
        refine lv_aload_n hx hb dX6_takesText_26 rfl (lv_at hl 1 rfl) ?_
        refine va_get (D := κ.1) (ci := 6) (v := .ref (kR κ this 5)) (C := RX6) (T := TX6) (N := 27) hx hb hg inX6 hown hK (hT.o20 (hT.k t_this (by decide))).one 0 rfl rfl 5 (by decide) (hg _ k1224) (fun _ h9 => h9) rfl dX6_takesText_27 ?_
        rw [erP]
        refine lv_iload_n hx hb dX6_takesText_30 rfl (lv_at hl 0 rfl) ?_
        refine lv_aload_n hx hb dX6_takesText_31 rfl (lv_at hl 1 rfl) ?_
        refine va_get (D := κ.1) (ci := 6) (v := .ref (kR κ this 25)) (C := RX6) (T := TX6) (N := 27) hx hb hg inX6 hown hK (hT.o20 (hT.k t_this (by decide))).one 0 rfl rfl 25 (by decide) (hg _ k1244) (fun _ h9 => h9) rfl dX6_takesText_32 ?_
        rw [erQ]
        refine lv_iload_n hx hb dX6_takesText_35 rfl (lv_at hl 0 rfl) ?_
        refine va_iald hx hb hK (hT.o27 (hT.k trQ (by decide))).one 0 0 rfl rfl (g_in (by omega) (by omega)) dX6_takesText_36 ?_
        refine lv_topi (fun t50 ht50 => ?_)
        have hTo := hT
        refine tasti (n := 48) hx hb hK hT (hT.k trP (by decide)) ⟨by decide, by decide⟩ (fun _ _ _ => rfl) (fun _ _ => trivial) (fun _ => rfl) (by omega) (by omega) dX6_takesText_37 (fun H locs s51 hus51 hT => ?_)
        have kthis_7 : zI s51 this 7 = v1 := (zput_o hus51 (Or.inl ((hTo.k t_this (by decide)).ne (hTo.k trP (by decide)) (by decide)))).trans kthis_7
        have Y52 : ∀ j : Nat, j < ix k + 1 → zI s51 rP j = zI σ0 rQ j := fun j hj => (Classical.em (j = ix k)).elim (fun e9 => by rw [e9, zput_at hus51, ht50]; exact hTo.eI trQ (by decide) rfl rfl) (fun e9 => (zput_o hus51 (Or.inr e9)).trans (q3 j (by omega)))
        refine lv_aload_n hx hb dX6_takesText_38 rfl (lv_at hl 1 rfl) ?_
        obtain ⟨r53, er53⟩ : ∃ z, kR κ this 6 = z := ⟨_, rfl⟩
        have tr53 : zk σ0 r53 26 := by rw [← er53]; exact hT0.ref t_this (by decide) (by decide) (by decide)
        refine va_get (D := κ.1) (ci := 6) (v := .ref (kR κ this 6)) (C := RX6) (T := TX6) (N := 27) hx hb hg inX6 hown hK (hT.o20 (hT.k t_this (by decide))).one 0 rfl rfl 6 (by decide) (hg _ k1225) (fun _ h9 => h9) rfl dX6_takesText_39 ?_
        rw [er53]
        refine lv_iload_n hx hb dX6_takesText_42 rfl (lv_at hl 0 rfl) ?_
        refine lv_aload_n hx hb dX6_takesText_43 rfl (lv_at hl 1 rfl) ?_
        obtain ⟨r54, er54⟩ : ∃ z, kR κ this 26 = z := ⟨_, rfl⟩
        have tr54 : zk σ0 r54 28 := by rw [← er54]; exact hT0.ref t_this (by decide) (by decide) (by decide)
        refine va_get (D := κ.1) (ci := 6) (v := .ref (kR κ this 26)) (C := RX6) (T := TX6) (N := 27) hx hb hg inX6 hown hK (hT.o20 (hT.k t_this (by decide))).one 0 rfl rfl 26 (by decide) (hg _ k1245) (fun _ h9 => h9) rfl dX6_takesText_44 ?_
        rw [er54]
        refine lv_iload_n hx hb dX6_takesText_47 rfl (lv_at hl 0 rfl) ?_
        refine va_iald hx hb hK (hT.o28 (hT.k tr54 (by decide))).one 0 0 rfl rfl (g_in (by omega) (by omega)) dX6_takesText_48 ?_
        refine lv_topi (fun t55 ht55 => ?_)
        have hTo := hT
        refine tasti (n := 48) hx hb hK hT (hT.k tr53 (by decide)) ⟨by decide, by decide⟩ (fun _ _ _ => rfl) (fun _ _ => trivial) (fun _ => rfl) (by omega) (by omega) dX6_takesText_49 (fun H locs s56 hus56 hT => ?_)
        have kthis_7 : zI s56 this 7 = v1 := (zput_o hus56 (Or.inl ((hTo.k t_this (by decide)).ne (hTo.k tr53 (by decide)) (by decide)))).trans kthis_7
        have Y57 : ∀ j : Nat, j < ix k + 1 → zI s56 rP j = zI σ0 rQ j := by first | (rw [show zI s56 rP = zI s51 rP from zput_Io hus56 ((hTo.k trP (by decide)).ne (hTo.k tr53 (by decide)) (by decide))]; exact Y52) | rw [show zI s56 rP = zI s51 rP from zput_Io hus56 ((hTo.k trP (by decide)).ne (hTo.k tr53 (by decide)) (by decide))]
        obtain ⟨t58, qt58⟩ : ∃ zz9 : Int32, k + Int32.ofInt 1 = zz9 := ⟨_, rfl⟩
        refine lv_iinc (v := t58) (lv' := [(1, .int t58), (0, .ref this)]) hx hb dX6_takesText_50 hl (k := 0) rfl qt58 (by decide) rfl (fun ls hl => ?_)
        have ht58 : t58.toInt = k.toInt + 1 := by rw [← qt58]; exact v_addi rfl (show (Int32.ofInt 1).toInt = 1 from by decide) (by omega) (by omega)
        refine lv_goto (tgt := 18) hx hb dX6_takesText_53 (by decide) ?_
        exact ih18 t58 _ _ _ _ hT kthis_7 (by omega) (by omega) (by rw [show ix t58 = ix k + 1 from by unfold ix; omega]; exact Y57) hl (by omega)
  exact loop18 ((48 - (0 : Int32).toInt).toNat + 1) 0 _ _ _ _ hT e6 (by omega) (by omega) (fun j hj => by rw [ix_0] at hj; omega) hl (by omega)
set_option maxHeartbeats 4000000 in
set_option maxRecDepth 100000 in
theorem X6s_load (l : Launch) (κ : Kt) (σ0 : Gh) (this : Nat) {tc : Nat → Int} {Ln : Nat} (t_this : zk σ0 this 20) (h0 : RI κ σ0 this) (h1 : TXm κ σ0 this tc Ln) : TC l yX6_load cX6_load 1 (some .int) 8 185 [.ref this] κ σ0 (tqi κ gLd σ0 (fun (r : Int32) (τ : Gh) => (RI κ τ this) ∧ ((zI τ this 13).toInt = 0) ∧ (∃ (x9 : uRd) (co po : Int), uRds tc Ln x9 co po ∧ (((zI τ this 0).toInt = 0 ∧ co = 0 ∧ r.toInt = po ∧ (zI τ this 15).toInt = 0 ∧ (zI τ this 16).toInt = -1 ∧ zI τ (kR κ this 4) 0 = 0 ∧ zI τ (kR κ this 4) 1 = 0 ∧ (zJ τ (kR κ this 1) 0).toInt = x9.2.2.2.2 0 ∧ (zJ τ (kR κ this 1) 1).toInt = x9.2.2.2.2 1 ∧ (zJ τ (kR κ this 1) 2).toInt = x9.2.2.2.2 2) ∨ ((zI τ this 0).toInt = 1 ∧ co ≠ 0 ∧ (zI τ this 15).toInt = co ∧ (zI τ this 16).toInt = po ∧ zI τ (kR κ this 4) = zI σ0 (kR κ this 4) ∧ ∀ j : Nat, j < 3 → zJ τ (kR κ this 1) j = zJ σ0 (kR κ this 1) j))))) := by
  refine TC.of gLd (by decide +kernel) (Nat.le_of_ble_eq_true rfl) ?_
  intro p e s m below meth c ls hcs hK hX hT hl
  obtain ⟨hx, hb, hr, hml, hown, hg, hlocks, hin⟩ := hcs
  have hown : s.vm.findClass RX6 = some m.cls := hown
  have hl : lv_has ls 1 [(0, .ref this)] := hl
  have hT0 := hT
  have nm1 : ((-1) : Int32).toInt = (-1) := by decide
  have n0 : (0 : Int32).toInt = 0 := by decide
  have n1 : (1 : Int32).toInt = 1 := by decide
  have n2 : (2 : Int32).toInt = 2 := by decide
  generalize hQ9 : tQ _ _ _ _ _ _ = Q9
  obtain ⟨rW, erW⟩ : ∃ z, kR κ this 1 = z := ⟨_, rfl⟩
  have trW : zk σ0 rW 21 := by rw [← erW]; exact h0.1.2.1
  obtain ⟨rP, erP⟩ : ∃ z, kR κ this 5 = z := ⟨_, rfl⟩
  have trP : zk σ0 rP 25 := by rw [← erP]; exact h0.1.2.2.2.2
  have hB0 := h0.b
  rw [erW] at hB0
  have hW := h0.2.1
  rw [erW] at hW
  have hP := h0.2.2.1
  rw [erP] at hP
  have hrN : (rN σ0 this : Int) = (zI σ0 this 7).toInt := by unfold rN; omega
  obtain ⟨rQ, erQ⟩ : ∃ z, kR κ this 25 = z := ⟨_, rfl⟩
  have trQ : zk σ0 rQ 27 := by rw [← erQ]; exact hT0.ref t_this (by decide) (by decide) (by decide)
  obtain ⟨rK, erK⟩ : ∃ z, kR κ this 4 = z := ⟨_, rfl⟩
  have trK : zk σ0 rK 29 := by rw [← erK]; exact hT0.ref t_this (by decide) (by decide) (by decide)
  have hTX := h1
  obtain ⟨rT, erT⟩ : ∃ z, kR κ this 12 = z := ⟨_, rfl⟩
  have trT : zk σ0 rT 23 := by rw [← erT]; exact hT0.ref t_this (by decide) (by decide) (by decide)
  have hpc : ∀ j, tc j = (zI σ0 rT j).toInt := by rw [← erT]; exact hTX.1
  have hLn : (zI σ0 this 13).toInt = Ln := hTX.2.1
  have hL7 : Ln ≤ 700 := hTX.2.2.1
  have hnn := hTX.2.2.2
  have kq : zI σ0 rK = zI σ0 rK := rfl
  have wv0_0 : zJ σ0 rW 0 = zJ σ0 rW 0 := rfl
  have wv1_0 : zJ σ0 rW 1 = zJ σ0 rW 1 := rfl
  have wv2_0 : zJ σ0 rW 2 = zJ σ0 rW 2 := rfl
  obtain ⟨v1, ev1⟩ : ∃ zz9 : Int32, zI σ0 this 13 = zz9 := ⟨_, rfl⟩
  have qv1 : v1.toInt = (zI σ0 this 13).toInt := by rw [ev1]
  have zthis13 : zI σ0 this 13 = v1 := ev1
  refine lv_aload_n hx hb dX6_load_0 rfl (lv_at hl 0 rfl) ?_
  refine lv_iconst (v := 0) hx hb dX6_load_1 (by decide) ?_
  have hTo := hT
  refine pf20_0 hx hb hg hown hK hT (hT.k t_this (by decide)) rfl (hg _ k1219) dX6_load_2 (fun H locs s2 hus2 hT => ?_)
  have ev1 : zI s2 this 13 = v1 := (zput_o hus2 (Or.inr (by decide))).trans ev1
  have R3 : RI κ s2 this := h0.put hus2 (hTo.k t_this (by decide)) (by decide)
  have B4 := R3.b
  rw [erW] at B4
  have wv5 : zJ s2 rW 0 = zJ σ0 rW 0 := (congrFun (zput_J (x := rW) hus2) 0).trans wv0_0
  have wv6 : zJ s2 rW 1 = zJ σ0 rW 1 := (congrFun (zput_J (x := rW) hus2) 1).trans wv1_0
  have wv7 : zJ s2 rW 2 = zJ σ0 rW 2 := (congrFun (zput_J (x := rW) hus2) 2).trans wv2_0
  have Y8 : zI s2 rK = zI σ0 rK := by first | (rw [show zI s2 rK = zI σ0 rK from zput_Io hus2 ((hTo.k trK (by decide)).ne (hTo.k t_this (by decide)) (by decide))]; exact kq) | rw [show zI s2 rK = zI σ0 rK from zput_Io hus2 ((hTo.k trK (by decide)).ne (hTo.k t_this (by decide)) (by decide))]
  have e9 : zI s2 this 0 = 0 := zput_at hus2
  refine lv_aload_n hx hb dX6_load_5 rfl (lv_at hl 0 rfl) ?_
  refine lv_iconst (v := 0) hx hb dX6_load_6 (by decide) ?_
  have hTo := hT
  refine pf20_15 hx hb hg hown hK hT (hT.k t_this (by decide)) rfl (hg _ k1234) dX6_load_7 (fun H locs s10 hus10 hT => ?_)
  have ev1 : zI s10 this 13 = v1 := (zput_o hus10 (Or.inr (by decide))).trans ev1
  have e9 : zI s10 this 0 = 0 := (zput_o hus10 (Or.inr (by decide))).trans e9
  have R11 : RI κ s10 this := R3.put hus10 (hTo.k t_this (by decide)) (by decide)
  have B12 := R11.b
  rw [erW] at B12
  have wv13 : zJ s10 rW 0 = zJ σ0 rW 0 := (congrFun (zput_J (x := rW) hus10) 0).trans wv5
  have wv14 : zJ s10 rW 1 = zJ σ0 rW 1 := (congrFun (zput_J (x := rW) hus10) 1).trans wv6
  have wv15 : zJ s10 rW 2 = zJ σ0 rW 2 := (congrFun (zput_J (x := rW) hus10) 2).trans wv7
  have Y16 : zI s10 rK = zI σ0 rK := by first | (rw [show zI s10 rK = zI s2 rK from zput_Io hus10 ((hTo.k trK (by decide)).ne (hTo.k t_this (by decide)) (by decide))]; exact Y8) | rw [show zI s10 rK = zI s2 rK from zput_Io hus10 ((hTo.k trK (by decide)).ne (hTo.k t_this (by decide)) (by decide))]
  have e17 : zI s10 this 15 = 0 := zput_at hus10
  refine lv_aload_n hx hb dX6_load_10 rfl (lv_at hl 0 rfl) ?_
  refine lv_iconst (v := (-1)) hx hb dX6_load_11 (by decide) ?_
  have hTo := hT
  refine pf20_16 hx hb hg hown hK hT (hT.k t_this (by decide)) rfl (hg _ k1235) dX6_load_12 (fun H locs s18 hus18 hT => ?_)
  have ev1 : zI s18 this 13 = v1 := (zput_o hus18 (Or.inr (by decide))).trans ev1
  have e9 : zI s18 this 0 = 0 := (zput_o hus18 (Or.inr (by decide))).trans e9
  have e17 : zI s18 this 15 = 0 := (zput_o hus18 (Or.inr (by decide))).trans e17
  have R19 : RI κ s18 this := R11.put hus18 (hTo.k t_this (by decide)) (by decide)
  have B20 := R19.b
  rw [erW] at B20
  have wv21 : zJ s18 rW 0 = zJ σ0 rW 0 := (congrFun (zput_J (x := rW) hus18) 0).trans wv13
  have wv22 : zJ s18 rW 1 = zJ σ0 rW 1 := (congrFun (zput_J (x := rW) hus18) 1).trans wv14
  have wv23 : zJ s18 rW 2 = zJ σ0 rW 2 := (congrFun (zput_J (x := rW) hus18) 2).trans wv15
  have Y24 : zI s18 rK = zI σ0 rK := by first | (rw [show zI s18 rK = zI s10 rK from zput_Io hus18 ((hTo.k trK (by decide)).ne (hTo.k t_this (by decide)) (by decide))]; exact Y16) | rw [show zI s18 rK = zI s10 rK from zput_Io hus18 ((hTo.k trK (by decide)).ne (hTo.k t_this (by decide)) (by decide))]
  have e25 : zI s18 this 16 = (-1) := zput_at hus18
  refine lv_aload_n hx hb dX6_load_15 rfl (lv_at hl 0 rfl) ?_
  refine lv_iconst (v := 0) hx hb dX6_load_16 (by decide) ?_
  have hTo := hT
  refine pf20_18 hx hb hg hown hK hT (hT.k t_this (by decide)) rfl (hg _ k1237) dX6_load_17 (fun H locs s26 hus26 hT => ?_)
  have ev1 : zI s26 this 13 = v1 := (zput_o hus26 (Or.inr (by decide))).trans ev1
  have e9 : zI s26 this 0 = 0 := (zput_o hus26 (Or.inr (by decide))).trans e9
  have e17 : zI s26 this 15 = 0 := (zput_o hus26 (Or.inr (by decide))).trans e17
  have e25 : zI s26 this 16 = (-1) := (zput_o hus26 (Or.inr (by decide))).trans e25
  have R27 : RI κ s26 this := R19.put hus26 (hTo.k t_this (by decide)) (by decide)
  have B28 := R27.b
  rw [erW] at B28
  have wv29 : zJ s26 rW 0 = zJ σ0 rW 0 := (congrFun (zput_J (x := rW) hus26) 0).trans wv21
  have wv30 : zJ s26 rW 1 = zJ σ0 rW 1 := (congrFun (zput_J (x := rW) hus26) 1).trans wv22
  have wv31 : zJ s26 rW 2 = zJ σ0 rW 2 := (congrFun (zput_J (x := rW) hus26) 2).trans wv23
  have Y32 : zI s26 rK = zI σ0 rK := by first | (rw [show zI s26 rK = zI s18 rK from zput_Io hus26 ((hTo.k trK (by decide)).ne (hTo.k t_this (by decide)) (by decide))]; exact Y24) | rw [show zI s26 rK = zI s18 rK from zput_Io hus26 ((hTo.k trK (by decide)).ne (hTo.k t_this (by decide)) (by decide))]
  have e33 : zI s26 this 18 = 0 := zput_at hus26
  refine lv_aload_n hx hb dX6_load_20 rfl (lv_at hl 0 rfl) ?_
  refine lv_iconst (v := 2) hx hb dX6_load_21 (by decide) ?_
  have hTo := hT
  refine pf20_19 hx hb hg hown hK hT (hT.k t_this (by decide)) rfl (hg _ k1238) dX6_load_22 (fun H locs s34 hus34 hT => ?_)
  have ev1 : zI s34 this 13 = v1 := (zput_o hus34 (Or.inr (by decide))).trans ev1
  have e9 : zI s34 this 0 = 0 := (zput_o hus34 (Or.inr (by decide))).trans e9
  have e17 : zI s34 this 15 = 0 := (zput_o hus34 (Or.inr (by decide))).trans e17
  have e25 : zI s34 this 16 = (-1) := (zput_o hus34 (Or.inr (by decide))).trans e25
  have e33 : zI s34 this 18 = 0 := (zput_o hus34 (Or.inr (by decide))).trans e33
  have R35 : RI κ s34 this := R27.put hus34 (hTo.k t_this (by decide)) (by decide)
  have B36 := R35.b
  rw [erW] at B36
  have wv37 : zJ s34 rW 0 = zJ σ0 rW 0 := (congrFun (zput_J (x := rW) hus34) 0).trans wv29
  have wv38 : zJ s34 rW 1 = zJ σ0 rW 1 := (congrFun (zput_J (x := rW) hus34) 1).trans wv30
  have wv39 : zJ s34 rW 2 = zJ σ0 rW 2 := (congrFun (zput_J (x := rW) hus34) 2).trans wv31
  have Y40 : zI s34 rK = zI σ0 rK := by first | (rw [show zI s34 rK = zI s26 rK from zput_Io hus34 ((hTo.k trK (by decide)).ne (hTo.k t_this (by decide)) (by decide))]; exact Y32) | rw [show zI s34 rK = zI s26 rK from zput_Io hus34 ((hTo.k trK (by decide)).ne (hTo.k t_this (by decide)) (by decide))]
  have e41 : zI s34 this 19 = 2 := zput_at hus34
  refine lv_aload_n hx hb dX6_load_25 rfl (lv_at hl 0 rfl) ?_
  refine lv_iconst (v := 0) hx hb dX6_load_26 (by decide) ?_
  have hTo := hT
  refine pf20_20 hx hb hg hown hK hT (hT.k t_this (by decide)) rfl (hg _ k1239) dX6_load_27 (fun H locs s42 hus42 hT => ?_)
  have ev1 : zI s42 this 13 = v1 := (zput_o hus42 (Or.inr (by decide))).trans ev1
  have e9 : zI s42 this 0 = 0 := (zput_o hus42 (Or.inr (by decide))).trans e9
  have e17 : zI s42 this 15 = 0 := (zput_o hus42 (Or.inr (by decide))).trans e17
  have e25 : zI s42 this 16 = (-1) := (zput_o hus42 (Or.inr (by decide))).trans e25
  have e33 : zI s42 this 18 = 0 := (zput_o hus42 (Or.inr (by decide))).trans e33
  have e41 : zI s42 this 19 = 2 := (zput_o hus42 (Or.inr (by decide))).trans e41
  have R43 : RI κ s42 this := R35.put hus42 (hTo.k t_this (by decide)) (by decide)
  have B44 := R43.b
  rw [erW] at B44
  have wv45 : zJ s42 rW 0 = zJ σ0 rW 0 := (congrFun (zput_J (x := rW) hus42) 0).trans wv37
  have wv46 : zJ s42 rW 1 = zJ σ0 rW 1 := (congrFun (zput_J (x := rW) hus42) 1).trans wv38
  have wv47 : zJ s42 rW 2 = zJ σ0 rW 2 := (congrFun (zput_J (x := rW) hus42) 2).trans wv39
  have Y48 : zI s42 rK = zI σ0 rK := by first | (rw [show zI s42 rK = zI s34 rK from zput_Io hus42 ((hTo.k trK (by decide)).ne (hTo.k t_this (by decide)) (by decide))]; exact Y40) | rw [show zI s42 rK = zI s34 rK from zput_Io hus42 ((hTo.k trK (by decide)).ne (hTo.k t_this (by decide)) (by decide))]
  have e49 : zI s42 this 20 = 0 := zput_at hus42
  refine lv_aload_n hx hb dX6_load_30 rfl (lv_at hl 0 rfl) ?_
  refine lv_iconst (v := 2) hx hb dX6_load_31 (by decide) ?_
  have hTo := hT
  refine pf20_21 hx hb hg hown hK hT (hT.k t_this (by decide)) rfl (hg _ k1240) dX6_load_32 (fun H locs s50 hus50 hT => ?_)
  have ev1 : zI s50 this 13 = v1 := (zput_o hus50 (Or.inr (by decide))).trans ev1
  have e9 : zI s50 this 0 = 0 := (zput_o hus50 (Or.inr (by decide))).trans e9
  have e17 : zI s50 this 15 = 0 := (zput_o hus50 (Or.inr (by decide))).trans e17
  have e25 : zI s50 this 16 = (-1) := (zput_o hus50 (Or.inr (by decide))).trans e25
  have e33 : zI s50 this 18 = 0 := (zput_o hus50 (Or.inr (by decide))).trans e33
  have e41 : zI s50 this 19 = 2 := (zput_o hus50 (Or.inr (by decide))).trans e41
  have e49 : zI s50 this 20 = 0 := (zput_o hus50 (Or.inr (by decide))).trans e49
  have R51 : RI κ s50 this := R43.put hus50 (hTo.k t_this (by decide)) (by decide)
  have B52 := R51.b
  rw [erW] at B52
  have wv53 : zJ s50 rW 0 = zJ σ0 rW 0 := (congrFun (zput_J (x := rW) hus50) 0).trans wv45
  have wv54 : zJ s50 rW 1 = zJ σ0 rW 1 := (congrFun (zput_J (x := rW) hus50) 1).trans wv46
  have wv55 : zJ s50 rW 2 = zJ σ0 rW 2 := (congrFun (zput_J (x := rW) hus50) 2).trans wv47
  have Y56 : zI s50 rK = zI σ0 rK := by first | (rw [show zI s50 rK = zI s42 rK from zput_Io hus50 ((hTo.k trK (by decide)).ne (hTo.k t_this (by decide)) (by decide))]; exact Y48) | rw [show zI s50 rK = zI s42 rK from zput_Io hus50 ((hTo.k trK (by decide)).ne (hTo.k t_this (by decide)) (by decide))]
  have e57 : zI s50 this 21 = 2 := zput_at hus50
  refine lv_aload_n hx hb dX6_load_35 rfl (lv_at hl 0 rfl) ?_
  refine lv_iconst (v := 1) hx hb dX6_load_36 (by decide) ?_
  have hTo := hT
  refine pf20_22 hx hb hg hown hK hT (hT.k t_this (by decide)) rfl (hg _ k1241) dX6_load_37 (fun H locs s58 hus58 hT => ?_)
  have ev1 : zI s58 this 13 = v1 := (zput_o hus58 (Or.inr (by decide))).trans ev1
  have e9 : zI s58 this 0 = 0 := (zput_o hus58 (Or.inr (by decide))).trans e9
  have e17 : zI s58 this 15 = 0 := (zput_o hus58 (Or.inr (by decide))).trans e17
  have e25 : zI s58 this 16 = (-1) := (zput_o hus58 (Or.inr (by decide))).trans e25
  have e33 : zI s58 this 18 = 0 := (zput_o hus58 (Or.inr (by decide))).trans e33
  have e41 : zI s58 this 19 = 2 := (zput_o hus58 (Or.inr (by decide))).trans e41
  have e49 : zI s58 this 20 = 0 := (zput_o hus58 (Or.inr (by decide))).trans e49
  have e57 : zI s58 this 21 = 2 := (zput_o hus58 (Or.inr (by decide))).trans e57
  have R59 : RI κ s58 this := R51.put hus58 (hTo.k t_this (by decide)) (by decide)
  have B60 := R59.b
  rw [erW] at B60
  have wv61 : zJ s58 rW 0 = zJ σ0 rW 0 := (congrFun (zput_J (x := rW) hus58) 0).trans wv53
  have wv62 : zJ s58 rW 1 = zJ σ0 rW 1 := (congrFun (zput_J (x := rW) hus58) 1).trans wv54
  have wv63 : zJ s58 rW 2 = zJ σ0 rW 2 := (congrFun (zput_J (x := rW) hus58) 2).trans wv55
  have Y64 : zI s58 rK = zI σ0 rK := by first | (rw [show zI s58 rK = zI s50 rK from zput_Io hus58 ((hTo.k trK (by decide)).ne (hTo.k t_this (by decide)) (by decide))]; exact Y56) | rw [show zI s58 rK = zI s50 rK from zput_Io hus58 ((hTo.k trK (by decide)).ne (hTo.k t_this (by decide)) (by decide))]
  have e65 : zI s58 this 22 = 1 := zput_at hus58
  refine lv_aload_n hx hb dX6_load_40 rfl (lv_at hl 0 rfl) ?_
  refine lv_iconst (v := 0) hx hb dX6_load_41 (by decide) ?_
  have hTo := hT
  refine pf20_23 hx hb hg hown hK hT (hT.k t_this (by decide)) rfl (hg _ k1242) dX6_load_42 (fun H locs s66 hus66 hT => ?_)
  have ev1 : zI s66 this 13 = v1 := (zput_o hus66 (Or.inr (by decide))).trans ev1
  have e9 : zI s66 this 0 = 0 := (zput_o hus66 (Or.inr (by decide))).trans e9
  have e17 : zI s66 this 15 = 0 := (zput_o hus66 (Or.inr (by decide))).trans e17
  have e25 : zI s66 this 16 = (-1) := (zput_o hus66 (Or.inr (by decide))).trans e25
  have e33 : zI s66 this 18 = 0 := (zput_o hus66 (Or.inr (by decide))).trans e33
  have e41 : zI s66 this 19 = 2 := (zput_o hus66 (Or.inr (by decide))).trans e41
  have e49 : zI s66 this 20 = 0 := (zput_o hus66 (Or.inr (by decide))).trans e49
  have e57 : zI s66 this 21 = 2 := (zput_o hus66 (Or.inr (by decide))).trans e57
  have e65 : zI s66 this 22 = 1 := (zput_o hus66 (Or.inr (by decide))).trans e65
  have R67 : RI κ s66 this := R59.put hus66 (hTo.k t_this (by decide)) (by decide)
  have B68 := R67.b
  rw [erW] at B68
  have wv69 : zJ s66 rW 0 = zJ σ0 rW 0 := (congrFun (zput_J (x := rW) hus66) 0).trans wv61
  have wv70 : zJ s66 rW 1 = zJ σ0 rW 1 := (congrFun (zput_J (x := rW) hus66) 1).trans wv62
  have wv71 : zJ s66 rW 2 = zJ σ0 rW 2 := (congrFun (zput_J (x := rW) hus66) 2).trans wv63
  have Y72 : zI s66 rK = zI σ0 rK := by first | (rw [show zI s66 rK = zI s58 rK from zput_Io hus66 ((hTo.k trK (by decide)).ne (hTo.k t_this (by decide)) (by decide))]; exact Y64) | rw [show zI s66 rK = zI s58 rK from zput_Io hus66 ((hTo.k trK (by decide)).ne (hTo.k t_this (by decide)) (by decide))]
  have e73 : zI s66 this 23 = 0 := zput_at hus66
  refine lv_aload_n hx hb dX6_load_45 rfl (lv_at hl 0 rfl) ?_
  refine lv_iconst (v := 0) hx hb dX6_load_46 (by decide) ?_
  have hTo := hT
  refine pf20_14 hx hb hg hown hK hT (hT.k t_this (by decide)) rfl (hg _ k1233) dX6_load_47 (fun H locs s74 hus74 hT => ?_)
  have ev1 : zI s74 this 13 = v1 := (zput_o hus74 (Or.inr (by decide))).trans ev1
  have e9 : zI s74 this 0 = 0 := (zput_o hus74 (Or.inr (by decide))).trans e9
  have e17 : zI s74 this 15 = 0 := (zput_o hus74 (Or.inr (by decide))).trans e17
  have e25 : zI s74 this 16 = (-1) := (zput_o hus74 (Or.inr (by decide))).trans e25
  have e33 : zI s74 this 18 = 0 := (zput_o hus74 (Or.inr (by decide))).trans e33
  have e41 : zI s74 this 19 = 2 := (zput_o hus74 (Or.inr (by decide))).trans e41
  have e49 : zI s74 this 20 = 0 := (zput_o hus74 (Or.inr (by decide))).trans e49
  have e57 : zI s74 this 21 = 2 := (zput_o hus74 (Or.inr (by decide))).trans e57
  have e65 : zI s74 this 22 = 1 := (zput_o hus74 (Or.inr (by decide))).trans e65
  have e73 : zI s74 this 23 = 0 := (zput_o hus74 (Or.inr (by decide))).trans e73
  have R75 : RI κ s74 this := R67.put hus74 (hTo.k t_this (by decide)) (by decide)
  have B76 := R75.b
  rw [erW] at B76
  have wv77 : zJ s74 rW 0 = zJ σ0 rW 0 := (congrFun (zput_J (x := rW) hus74) 0).trans wv69
  have wv78 : zJ s74 rW 1 = zJ σ0 rW 1 := (congrFun (zput_J (x := rW) hus74) 1).trans wv70
  have wv79 : zJ s74 rW 2 = zJ σ0 rW 2 := (congrFun (zput_J (x := rW) hus74) 2).trans wv71
  have Y80 : zI s74 rK = zI σ0 rK := by first | (rw [show zI s74 rK = zI s66 rK from zput_Io hus74 ((hTo.k trK (by decide)).ne (hTo.k t_this (by decide)) (by decide))]; exact Y72) | rw [show zI s74 rK = zI s66 rK from zput_Io hus74 ((hTo.k trK (by decide)).ne (hTo.k t_this (by decide)) (by decide))]
  have e81 : zI s74 this 14 = 0 := zput_at hus74
  refine lv_aload_n hx hb dX6_load_50 rfl (lv_at hl 0 rfl) ?_
  refine lv_iconst (v := 0) hx hb dX6_load_51 (by decide) ?_
  have hTo := hT
  refine pf20_17 hx hb hg hown hK hT (hT.k t_this (by decide)) rfl isB0 (hg _ k1236) dX6_load_52 (fun H locs s82 hus82 hT => ?_)
  have ev1 : zI s82 this 13 = v1 := (zput_o hus82 (Or.inr (by decide))).trans ev1
  have e9 : zI s82 this 0 = 0 := (zput_o hus82 (Or.inr (by decide))).trans e9
  have e17 : zI s82 this 15 = 0 := (zput_o hus82 (Or.inr (by decide))).trans e17
  have e25 : zI s82 this 16 = (-1) := (zput_o hus82 (Or.inr (by decide))).trans e25
  have e33 : zI s82 this 18 = 0 := (zput_o hus82 (Or.inr (by decide))).trans e33
  have e41 : zI s82 this 19 = 2 := (zput_o hus82 (Or.inr (by decide))).trans e41
  have e49 : zI s82 this 20 = 0 := (zput_o hus82 (Or.inr (by decide))).trans e49
  have e57 : zI s82 this 21 = 2 := (zput_o hus82 (Or.inr (by decide))).trans e57
  have e65 : zI s82 this 22 = 1 := (zput_o hus82 (Or.inr (by decide))).trans e65
  have e73 : zI s82 this 23 = 0 := (zput_o hus82 (Or.inr (by decide))).trans e73
  have e81 : zI s82 this 14 = 0 := (zput_o hus82 (Or.inr (by decide))).trans e81
  have R83 : RI κ s82 this := R75.put hus82 (hTo.k t_this (by decide)) (by decide)
  have B84 := R83.b
  rw [erW] at B84
  have wv85 : zJ s82 rW 0 = zJ σ0 rW 0 := (congrFun (zput_J (x := rW) hus82) 0).trans wv77
  have wv86 : zJ s82 rW 1 = zJ σ0 rW 1 := (congrFun (zput_J (x := rW) hus82) 1).trans wv78
  have wv87 : zJ s82 rW 2 = zJ σ0 rW 2 := (congrFun (zput_J (x := rW) hus82) 2).trans wv79
  have Y88 : zI s82 rK = zI σ0 rK := by first | (rw [show zI s82 rK = zI s74 rK from zput_Io hus82 ((hTo.k trK (by decide)).ne (hTo.k t_this (by decide)) (by decide))]; exact Y80) | rw [show zI s82 rK = zI s74 rK from zput_Io hus82 ((hTo.k trK (by decide)).ne (hTo.k t_this (by decide)) (by decide))]
  have e89 : zI s82 this 17 = 0 := zput_at hus82
  refine lv_aload_n hx hb dX6_load_55 rfl (lv_at hl 0 rfl) ?_
  have cz90 : zI s82 this 15 = 0 := e17
  have cz91 : zI s82 this 16 = (-1) := e25
  have hTo := hT
  refine tVv (n := 0) (As := []) (rest := []) hx hb hml hown hg hT hK hX (X6s_reads l κ s82 this  (hT.k t_this (by decide)) (hTX.tr (funext fun k => by rw [erT]; exact hT.eI trT (by decide) rfl rfl) ((show zI s82 this 13 = v1 from ev1).trans zthis13.symm)) (show (zI s82 this 17).toInt = 0 from by rw [(show zI s82 this 17 = 0 from e89)]; omega) (show (zI s82 this 14).toInt = 0 from by rw [(show zI s82 this 14 = 0 from e81)]; exact n0) (show (zI s82 this 18).toInt = 0 from by rw [(show zI s82 this 18 = 0 from e33)]; exact n0) (show (zI s82 this 23).toInt = 0 from by rw [(show zI s82 this 23 = 0 from e73)]; exact n0) (show GSm s82 this ugs0 from ⟨by rw [(show zI s82 this 20 = 0 from e49)]; decide, by rw [(show zI s82 this 21 = 2 from e57)]; decide, by rw [(show zI s82 this 22 = 1 from e65)]; decide, by rw [(show zI s82 this 19 = 2 from e41)]; decide⟩)) sub_gS3_gLd (mwV k1324 k1326 k38 k92 k1327) ⟨rfl, by decide, by decide, by decide +kernel⟩ ⟨(Nat.le_of_ble_eq_true rfl), (Nat.le_of_ble_eq_true rfl)⟩ (hT.o20 (hT.k t_this (by decide))) rfl rfl hl.1 rfl (Nat.le_of_ble_eq_true rfl) dX6_load_56 zroom.rf (fun s93 H locs hφ hEs93 hT => ?_)
  have ev1 : zI s93 this 13 = v1 := ((hTo.k t_this (by decide)).eI hEs93 (by decide) rfl).trans ev1
  have e9 : zI s93 this 0 = 0 := ((hTo.k t_this (by decide)).eI hEs93 (by decide) rfl).trans e9
  have R94 : RI κ s93 this := R83.ext hEs93 ⟨rfl, rfl, fun _ => rfl, fun _ => rfl, fun _ => rfl, fun _ => rfl⟩
  have B95 := R94.b
  rw [erW] at B95
  have wv96 : zJ s93 rW 0 = zJ σ0 rW 0 := ((hTo.k trW (by decide)).eJ hEs93 (by decide) rfl).trans wv85
  have wv97 : zJ s93 rW 1 = zJ σ0 rW 1 := ((hTo.k trW (by decide)).eJ hEs93 (by decide) rfl).trans wv86
  have wv98 : zJ s93 rW 2 = zJ σ0 rW 2 := ((hTo.k trW (by decide)).eJ hEs93 (by decide) rfl).trans wv87
  have Y99 : zI s93 rK = zI σ0 rK := by first | (rw [show zI s93 rK = zI s82 rK from funext fun k => (hTo.k trK (by decide)).eI hEs93 (by decide) rfl]; exact Y88) | rw [show zI s93 rK = zI s82 rK from funext fun k => (hTo.k trK (by decide)).eI hEs93 (by decide) rfl]
  obtain ⟨f100, f101, f102⟩ := hφ
  try simp only [erW, erP, ix_0, ix_1, ix_2, ix_3, ix_4, ix_5, ix_6, ix_7, ix_8, ix_9] at f100
  try simp only [erW, erP, ix_0, ix_1, ix_2, ix_3, ix_4, ix_5, ix_6, ix_7, ix_8, ix_9] at f101
  try simp only [erW, erP, ix_0, ix_1, ix_2, ix_3, ix_4, ix_5, ix_6, ix_7, ix_8, ix_9] at f102
  obtain ⟨x9, co, po, rds9, f102⟩ := f102
  rcases f102 with ⟨a1, a2, a3, a4, a5, a6⟩ | ⟨a1, a2, a3, a4⟩
  · skip
    obtain ⟨v103, ev103⟩ : ∃ zz9 : Int32, zI s93 this 17 = zz9 := ⟨_, rfl⟩
    have qv103 : v103.toInt = (zI s93 this 17).toInt := by rw [ev103]
    have b104 : isB v103 := by have q9 : isB (zI s93 this 17) := hT.P (hT.k t_this (by decide)) (by decide); rw [ev103] at q9; exact q9
    have b104t := isB_t b104
    rw [(show zI s93 this 17 = v103 from ev103)] at a1
    obtain ⟨v105, ev105⟩ : ∃ zz9 : Int32, zI s93 this 18 = zz9 := ⟨_, rfl⟩
    have qv105 : v105.toInt = (zI s93 this 18).toInt := by rw [ev105]
    rw [(show zI s93 this 18 = v105 from ev105)] at a3
    obtain ⟨v106, ev106⟩ : ∃ zz9 : Int32, zI s93 this 20 = zz9 := ⟨_, rfl⟩
    have qv106 : v106.toInt = (zI s93 this 20).toInt := by rw [ev106]
    obtain ⟨v107, ev107⟩ : ∃ zz9 : Int32, zI s93 this 21 = zz9 := ⟨_, rfl⟩
    have qv107 : v107.toInt = (zI s93 this 21).toInt := by rw [ev107]
    obtain ⟨v108, ev108⟩ : ∃ zz9 : Int32, zI s93 this 22 = zz9 := ⟨_, rfl⟩
    have qv108 : v108.toInt = (zI s93 this 22).toInt := by rw [ev108]
    obtain ⟨v109, ev109⟩ : ∃ zz9 : Int32, zI s93 this 19 = zz9 := ⟨_, rfl⟩
    have qv109 : v109.toInt = (zI s93 this 19).toInt := by rw [ev109]
    have gm110 : v106.toInt = x9.2.2.2.2 0 ∧ v107.toInt = x9.2.2.2.2 1 ∧ v108.toInt = x9.2.2.2.2 2 ∧ v109.toInt = x9.2.2.2.2 3 := by have z9 := a4; unfold GSm at z9; rw [(show zI s93 this 20 = v106 from ev106), (show zI s93 this 21 = v107 from ev107), (show zI s93 this 22 = v108 from ev108), (show zI s93 this 19 = v109 from ev109)] at z9; exact z9
    obtain ⟨v111, ev111⟩ : ∃ zz9 : Int32, zI s93 this 15 = zz9 := ⟨_, rfl⟩
    have qv111 : v111.toInt = (zI s93 this 15).toInt := by rw [ev111]
    have E112 : v111.toInt = 0 := by rw [show v111 = (0 : Int32) from ev111.symm.trans (a5.trans cz90)]; exact n0
    obtain ⟨v113, ev113⟩ : ∃ zz9 : Int32, zI s93 this 16 = zz9 := ⟨_, rfl⟩
    have qv113 : v113.toInt = (zI s93 this 16).toInt := by rw [ev113]
    have E114 : v113.toInt = -1 := by rw [show v113 = (-1 : Int32) from ev113.symm.trans (a6.trans cz91)]; exact nm1
    refine lv_aload_n hx hb dX6_load_59 rfl (lv_at hl 0 rfl) ?_
    refine lv_iconst (v := 0) hx hb dX6_load_60 (by decide) ?_
    have hTo := hT
    refine pf20_13 hx hb hg hown hK hT (hT.k t_this (by decide)) rfl (hg _ k1232) dX6_load_61 (fun H locs s115 hus115 hT => ?_)
    have e9 : zI s115 this 0 = 0 := (zput_o hus115 (Or.inr (by decide))).trans e9
    have ev103 : zI s115 this 17 = v103 := (zput_o hus115 (Or.inr (by decide))).trans ev103
    have ev105 : zI s115 this 18 = v105 := (zput_o hus115 (Or.inr (by decide))).trans ev105
    have ev106 : zI s115 this 20 = v106 := (zput_o hus115 (Or.inr (by decide))).trans ev106
    have ev107 : zI s115 this 21 = v107 := (zput_o hus115 (Or.inr (by decide))).trans ev107
    have ev108 : zI s115 this 22 = v108 := (zput_o hus115 (Or.inr (by decide))).trans ev108
    have ev109 : zI s115 this 19 = v109 := (zput_o hus115 (Or.inr (by decide))).trans ev109
    have ev111 : zI s115 this 15 = v111 := (zput_o hus115 (Or.inr (by decide))).trans ev111
    have ev113 : zI s115 this 16 = v113 := (zput_o hus115 (Or.inr (by decide))).trans ev113
    have R116 : RI κ s115 this := R94.putL hus115 ⟨by omega, by omega⟩
    have B117 := R116.b
    rw [erW] at B117
    have wv118 : zJ s115 rW 0 = zJ σ0 rW 0 := (congrFun (zput_J (x := rW) hus115) 0).trans wv96
    have wv119 : zJ s115 rW 1 = zJ σ0 rW 1 := (congrFun (zput_J (x := rW) hus115) 1).trans wv97
    have wv120 : zJ s115 rW 2 = zJ σ0 rW 2 := (congrFun (zput_J (x := rW) hus115) 2).trans wv98
    have Y121 : zI s115 rK = zI σ0 rK := by first | (rw [show zI s115 rK = zI s93 rK from zput_Io hus115 ((hTo.k trK (by decide)).ne (hTo.k t_this (by decide)) (by decide))]; exact Y99) | rw [show zI s115 rK = zI s93 rK from zput_Io hus115 ((hTo.k trK (by decide)).ne (hTo.k t_this (by decide)) (by decide))]
    have e122 : zI s115 this 13 = 0 := zput_at hus115
    refine lv_aload_n hx hb dX6_load_64 rfl (lv_at hl 0 rfl) ?_
    refine va_get (D := κ.1) (ci := 6) (v := .int (zI s115 this 17)) (C := RX6) (T := TX6) (N := 27) hx hb hg inX6 hown hK (hT.o20 (hT.k t_this (by decide))).one 0 rfl rfl 17 (by decide) (hg _ k1236) (fun _ h9 => h9) rfl dX6_load_65 ?_
    rw [ev103]
    refine lv_if_eq (tgt := 77) hx hb dX6_load_68 (by decide) (fun _ => ?_) (fun c9 => absurd (gi_ne c9) (by omega))
    refine lv_aload_n hx hb dX6_load_77 rfl (lv_at hl 0 rfl) ?_
    have cz123 : zI s115 this 18 = v105 := ev105
    have cz124 : zI s115 this 20 = v106 := ev106
    have cz125 : zI s115 this 21 = v107 := ev107
    have cz126 : zI s115 this 22 = v108 := ev108
    have qq127 : (zI s115 this 18).toInt = v105.toInt := by rw [ev105]
    have hTo := hT
    refine tVv (n := 0) (As := []) (rest := []) hx hb hml hown hg hT hK hX (X6s_takesText l κ s115 this  (hT.k t_this (by decide)) (by omega) (by omega) (by omega) (by omega) (by rw [erQ, zput_o hus115 (Or.inr (by decide)), zput_Io (x := rQ) hus115 ((hTo.k trQ (by decide)).ne (hTo.k t_this (by decide)) (by decide))]; have z9 := f101; rw [erQ] at z9; exact z9.resolve_left (by omega))) sub_gTT_gLd (mwV k1210 k1212 k34 k92 k1213) ⟨rfl, by decide, by decide, by decide +kernel⟩ ⟨(Nat.le_of_ble_eq_true rfl), (Nat.le_of_ble_eq_true rfl)⟩ (hT.o20 (hT.k t_this (by decide))) rfl rfl hl.1 rfl (Nat.le_of_ble_eq_true rfl) dX6_load_78 zroom.rf (fun s129 H locs hφ hEs129 hT => ?_)
    have e9 : zI s129 this 0 = 0 := ((hTo.k t_this (by decide)).eI hEs129 (by decide) rfl).trans e9
    have ev103 : zI s129 this 17 = v103 := ((hTo.k t_this (by decide)).eI hEs129 (by decide) rfl).trans ev103
    have ev105 : zI s129 this 18 = v105 := ((hTo.k t_this (by decide)).eI hEs129 (by decide) rfl).trans ev105
    have ev106 : zI s129 this 20 = v106 := ((hTo.k t_this (by decide)).eI hEs129 (by decide) rfl).trans ev106
    have ev107 : zI s129 this 21 = v107 := ((hTo.k t_this (by decide)).eI hEs129 (by decide) rfl).trans ev107
    have ev108 : zI s129 this 22 = v108 := ((hTo.k t_this (by decide)).eI hEs129 (by decide) rfl).trans ev108
    have ev109 : zI s129 this 19 = v109 := ((hTo.k t_this (by decide)).eI hEs129 (by decide) rfl).trans ev109
    have ev111 : zI s129 this 15 = v111 := ((hTo.k t_this (by decide)).eI hEs129 (by decide) rfl).trans ev111
    have ev113 : zI s129 this 16 = v113 := ((hTo.k t_this (by decide)).eI hEs129 (by decide) rfl).trans ev113
    have e122 : zI s129 this 13 = 0 := ((hTo.k t_this (by decide)).eI hEs129 (by decide) rfl).trans e122
    obtain ⟨f131, f132, f133, f134, f135, f136, f137⟩ := hφ
    have B138 := f131.b
    rw [erW] at B138
    try simp only [erW, erP, ix_0, ix_1, ix_2, ix_3, ix_4, ix_5, ix_6, ix_7, ix_8, ix_9] at f132
    try simp only [erW, erP, ix_0, ix_1, ix_2, ix_3, ix_4, ix_5, ix_6, ix_7, ix_8, ix_9] at f133
    try simp only [erW, erP, ix_0, ix_1, ix_2, ix_3, ix_4, ix_5, ix_6, ix_7, ix_8, ix_9] at f134
    try simp only [erW, erP, ix_0, ix_1, ix_2, ix_3, ix_4, ix_5, ix_6, ix_7, ix_8, ix_9] at f135
    try simp only [erW, erP, ix_0, ix_1, ix_2, ix_3, ix_4, ix_5, ix_6, ix_7, ix_8, ix_9] at f136
    try simp only [erW, erP, ix_0, ix_1, ix_2, ix_3, ix_4, ix_5, ix_6, ix_7, ix_8, ix_9] at f137
    obtain ⟨v139, ev139⟩ : ∃ zz9 : Int32, zI s129 this 7 = zz9 := ⟨_, rfl⟩
    have qv139 : v139.toInt = (zI s129 this 7).toInt := by rw [ev139]
    rw [(show zI s129 this 7 = v139 from ev139)] at f134
    rw [cz123] at f134
    rw [erK] at f132 f133
    have hr9 : v139.toInt = po := by rw [f134]; exact a3
    have hw0 : (zJ s129 rW 0).toInt = x9.2.2.2.2 0 := by have z9 := f135; (try rw [erW] at z9); rw [z9, cz124]; exact gm110.1
    have hw1 : (zJ s129 rW 1).toInt = x9.2.2.2.2 1 := by have z9 := f136; (try rw [erW] at z9); rw [z9, cz125]; exact gm110.2.1
    have hw2 : (zJ s129 rW 2).toInt = x9.2.2.2.2 2 := by have z9 := f137; (try rw [erW] at z9); rw [z9, cz126]; exact gm110.2.2.1
    refine lv_aload_n hx hb dX6_load_81 rfl (lv_at hl 0 rfl) ?_
    refine va_get (D := κ.1) (ci := 6) (v := .int (zI s129 this 7)) (C := RX6) (T := TX6) (N := 27) hx hb hg inX6 hown hK (hT.o20 (hT.k t_this (by decide))).one 0 rfl rfl 7 (by decide) (hg _ k1226) (fun _ h9 => h9) rfl dX6_load_82 ?_
    rw [ev139]
    subst hQ9
    exact t_i hx hb hr hlocks hT ⟨f131, by rw [(show zI s129 this 13 = 0 from e122)]; omega, x9, co, po, rds9, Or.inl ⟨by rw [(show zI s129 this 0 = 0 from e9)]; omega, a2, hr9, by rw [(show zI s129 this 15 = v111 from ev111)]; omega, by rw [(show zI s129 this 16 = v113 from ev113)]; omega, by rw [erK]; exact f132, by rw [erK]; exact f133, by rw [erW]; exact hw0, by rw [erW]; exact hw1, by rw [erW]; exact hw2⟩⟩ dX6_load_85
  · skip
    obtain ⟨v140, ev140⟩ : ∃ zz9 : Int32, zI s93 this 17 = zz9 := ⟨_, rfl⟩
    have qv140 : v140.toInt = (zI s93 this 17).toInt := by rw [ev140]
    have b141 : isB v140 := by have q9 : isB (zI s93 this 17) := hT.P (hT.k t_this (by decide)) (by decide); rw [ev140] at q9; exact q9
    have b141t := isB_t b141
    rw [(show zI s93 this 17 = v140 from ev140)] at a1
    obtain ⟨v142, ev142⟩ : ∃ zz9 : Int32, zI s93 this 15 = zz9 := ⟨_, rfl⟩
    have qv142 : v142.toInt = (zI s93 this 15).toInt := by rw [ev142]
    rw [(show zI s93 this 15 = v142 from ev142)] at a3
    obtain ⟨v143, ev143⟩ : ∃ zz9 : Int32, zI s93 this 16 = zz9 := ⟨_, rfl⟩
    have qv143 : v143.toInt = (zI s93 this 16).toInt := by rw [ev143]
    rw [(show zI s93 this 16 = v143 from ev143)] at a4
    refine lv_aload_n hx hb dX6_load_59 rfl (lv_at hl 0 rfl) ?_
    refine lv_iconst (v := 0) hx hb dX6_load_60 (by decide) ?_
    have hTo := hT
    refine pf20_13 hx hb hg hown hK hT (hT.k t_this (by decide)) rfl (hg _ k1232) dX6_load_61 (fun H locs s144 hus144 hT => ?_)
    have e9 : zI s144 this 0 = 0 := (zput_o hus144 (Or.inr (by decide))).trans e9
    have ev140 : zI s144 this 17 = v140 := (zput_o hus144 (Or.inr (by decide))).trans ev140
    have ev142 : zI s144 this 15 = v142 := (zput_o hus144 (Or.inr (by decide))).trans ev142
    have ev143 : zI s144 this 16 = v143 := (zput_o hus144 (Or.inr (by decide))).trans ev143
    have R145 : RI κ s144 this := R94.putL hus144 ⟨by omega, by omega⟩
    have B146 := R145.b
    rw [erW] at B146
    have wv147 : zJ s144 rW 0 = zJ σ0 rW 0 := (congrFun (zput_J (x := rW) hus144) 0).trans wv96
    have wv148 : zJ s144 rW 1 = zJ σ0 rW 1 := (congrFun (zput_J (x := rW) hus144) 1).trans wv97
    have wv149 : zJ s144 rW 2 = zJ σ0 rW 2 := (congrFun (zput_J (x := rW) hus144) 2).trans wv98
    have Y150 : zI s144 rK = zI σ0 rK := by first | (rw [show zI s144 rK = zI s93 rK from zput_Io hus144 ((hTo.k trK (by decide)).ne (hTo.k t_this (by decide)) (by decide))]; exact Y99) | rw [show zI s144 rK = zI s93 rK from zput_Io hus144 ((hTo.k trK (by decide)).ne (hTo.k t_this (by decide)) (by decide))]
    have e151 : zI s144 this 13 = 0 := zput_at hus144
    refine lv_aload_n hx hb dX6_load_64 rfl (lv_at hl 0 rfl) ?_
    refine va_get (D := κ.1) (ci := 6) (v := .int (zI s144 this 17)) (C := RX6) (T := TX6) (N := 27) hx hb hg inX6 hown hK (hT.o20 (hT.k t_this (by decide))).one 0 rfl rfl 17 (by decide) (hg _ k1236) (fun _ h9 => h9) rfl dX6_load_65 ?_
    rw [ev140]
    refine lv_if_eq (tgt := 77) hx hb dX6_load_68 (by decide) (fun c9 => absurd (gi_eq c9) (by omega)) (fun _ => ?_)
    refine lv_aload_n hx hb dX6_load_71 rfl (lv_at hl 0 rfl) ?_
    refine lv_iconst (v := 1) hx hb dX6_load_72 (by decide) ?_
    have hTo := hT
    refine tVi (n := 1) (As := [.int 1]) (rest := []) hx hb hml hown hg hT hK hX (X6s_fails l κ s144 this 1  (hT.k t_this (by decide)) R145) sub_gR_gLd (mwV k1316 k1318 k37 k92 k1319) ⟨rfl, by decide, by decide, by decide +kernel⟩ ⟨(Nat.le_of_ble_eq_true rfl), (Nat.le_of_ble_eq_true rfl)⟩ (hT.o20 (hT.k t_this (by decide))) rfl rfl hl.1 rfl (Nat.le_of_ble_eq_true rfl) dX6_load_73 zroom.rf (fun x152 s153 H locs hφ hEs153 hT => ?_)
    have ev140 : zI s153 this 17 = v140 := ((hTo.k t_this (by decide)).eI hEs153 (by decide) rfl).trans ev140
    have ev142 : zI s153 this 15 = v142 := ((hTo.k t_this (by decide)).eI hEs153 (by decide) rfl).trans ev142
    have ev143 : zI s153 this 16 = v143 := ((hTo.k t_this (by decide)).eI hEs153 (by decide) rfl).trans ev143
    have e151 : zI s153 this 13 = 0 := ((hTo.k t_this (by decide)).eI hEs153 (by decide) rfl).trans e151
    have R154 : RI κ s153 this := R145.ext hEs153 ⟨rfl, rfl, fun _ => rfl, fun _ => rfl, fun _ => rfl, fun _ => rfl⟩
    have B155 := R154.b
    rw [erW] at B155
    have wv156 : zJ s153 rW 0 = zJ σ0 rW 0 := ((hTo.k trW (by decide)).eJ hEs153 (by decide) rfl).trans wv147
    have wv157 : zJ s153 rW 1 = zJ σ0 rW 1 := ((hTo.k trW (by decide)).eJ hEs153 (by decide) rfl).trans wv148
    have wv158 : zJ s153 rW 2 = zJ σ0 rW 2 := ((hTo.k trW (by decide)).eJ hEs153 (by decide) rfl).trans wv149
    have Y159 : zI s153 rK = zI σ0 rK := by first | (rw [show zI s153 rK = zI s144 rK from funext fun k => (hTo.k trK (by decide)).eI hEs153 (by decide) rfl]; exact Y150) | rw [show zI s153 rK = zI s144 rK from funext fun k => (hTo.k trK (by decide)).eI hEs153 (by decide) rfl]
    obtain ⟨f160, f161⟩ := hφ
    try simp only [erW, erP, ix_0, ix_1, ix_2, ix_3, ix_4, ix_5, ix_6, ix_7, ix_8, ix_9] at f160
    try simp only [erW, erP, ix_0, ix_1, ix_2, ix_3, ix_4, ix_5, ix_6, ix_7, ix_8, ix_9] at f161
    obtain ⟨v162, ev162⟩ : ∃ zz9 : Int32, zI s153 this 0 = zz9 := ⟨_, rfl⟩
    have qv162 : v162.toInt = (zI s153 this 0).toInt := by rw [ev162]
    rw [(show zI s153 this 0 = v162 from ev162)] at f161
    subst hQ9
    exact t_i hx hb hr hlocks hT ⟨R154, by rw [(show zI s153 this 13 = 0 from e151)]; omega, x9, co, po, rds9, Or.inr ⟨by rw [(show zI s153 this 0 = v162 from ev162)]; omega, a2, by rw [(show zI s153 this 15 = v142 from ev142)]; exact a3, by rw [(show zI s153 this 16 = v143 from ev143)]; exact a4, by rw [erK]; exact Y159, by rw [erW]; exact (fun j hj => by rcases (show j = 0 ∨ j = 1 ∨ j = 2 by omega) with rfl | rfl | rfl <;> first | exact wv156 | exact wv157 | exact wv158)⟩⟩ dX6_load_76
set_option maxHeartbeats 4000000 in
set_option maxRecDepth 100000 in
theorem X6s_save (l : Launch) (κ : Kt) (σ0 : Gh) (this : Nat) (sl : Int32) (t_this : zk σ0 this 20) (h0 : RI κ σ0 this) : TC l yX6_save cX6_save 3 none 1 25 [.ref this, .int sl] κ σ0 (tqv κ gS σ0 (fun (τ : Gh) => (RI κ τ this) ∧ ((0 ≤ sl.toInt ∧ sl.toInt ≤ 1 ∧ (∀ j : Nat, zI τ (kR κ this 4) j = if j = ix sl then 1 else zI σ0 (kR κ this 4) j) ∧ (∀ j : Nat, j < 3 → zJ τ (kR κ this 3) (609 * ix sl + j) = zJ σ0 (kR κ this 1) j) ∧ (∀ x : Nat, (x < 609 * ix sl ∨ 609 * ix sl + 609 ≤ x) → zJ τ (kR κ this 3) x = zJ σ0 (kR κ this 3) x)) ∨ ((sl.toInt < 0 ∨ 1 < sl.toInt) ∧ zI τ (kR κ this 4) = zI σ0 (kR κ this 4) ∧ zJ τ (kR κ this 3) = zJ σ0 (kR κ this 3))))) := by
  refine TC.of gS (by decide +kernel) (Nat.le_of_ble_eq_true rfl) ?_
  intro p e s m below meth c ls hcs hK hX hT hl
  obtain ⟨hx, hb, hr, hml, hown, hg, hlocks, hin⟩ := hcs
  have hown : s.vm.findClass RX6 = some m.cls := hown
  have hl : lv_has ls 3 [(0, .ref this), (1, .int sl)] := hl
  have hT0 := hT
  have n0 : (0 : Int32).toInt = 0 := by decide
  have n1 : (1 : Int32).toInt = 1 := by decide
  have n609 : (609 : Int32).toInt = 609 := by decide
  have j0 : (0 : Int64).toInt = 0 := by decide
  have j1 : (1 : Int64).toInt = 1 := by decide
  have sl_lo := Int32.le_toInt sl
  have sl_hi := Int32.toInt_lt sl
  generalize hQ9 : tQ _ _ _ _ _ _ = Q9
  obtain ⟨rW, erW⟩ : ∃ z, kR κ this 1 = z := ⟨_, rfl⟩
  have trW : zk σ0 rW 21 := by rw [← erW]; exact h0.1.2.1
  obtain ⟨rP, erP⟩ : ∃ z, kR κ this 5 = z := ⟨_, rfl⟩
  have trP : zk σ0 rP 25 := by rw [← erP]; exact h0.1.2.2.2.2
  have hB0 := h0.b
  rw [erW] at hB0
  have hW := h0.2.1
  rw [erW] at hW
  have hP := h0.2.2.1
  rw [erP] at hP
  have hrN : (rN σ0 this : Int) = (zI σ0 this 7).toInt := by unfold rN; omega
  obtain ⟨rS, erS⟩ : ∃ z, kR κ this 3 = z := ⟨_, rfl⟩
  have trS : zk σ0 rS 22 := by rw [← erS]; exact hT0.ref t_this (by decide) (by decide) (by decide)
  obtain ⟨rK, erK⟩ : ∃ z, kR κ this 4 = z := ⟨_, rfl⟩
  have trK : zk σ0 rK 29 := by rw [← erK]; exact hT0.ref t_this (by decide) (by decide) (by decide)
  refine lv_aload_n hx hb dX6_save_0 rfl (lv_at hl 0 rfl) ?_
  refine lv_iload_n hx hb dX6_save_1 rfl (lv_at hl 1 rfl) ?_
  refine lv_i2l hx hb dX6_save_2 rfl ?_
  refine g_i2l (fun t1 ht1 => ?_)
  refine lv_lconst (v := 0) hx hb dX6_save_3 (by decide) ?_
  refine lv_lconst (v := 1) hx hb dX6_save_4 (by decide) ?_
  have hTo := hT
  refine tSi (n := 3) (As := [.long t1, .long 0, .long 1]) (rest := [.ref this]) hx hb hml hown hg hT hK hX (X6_in l κ σ0 t1 0 1   ) sub_fE_gS (mwS k1313 k1314 k92 k1315) ⟨rfl, by decide, by decide, by decide +kernel⟩ ⟨(Nat.le_of_ble_eq_true rfl), (Nat.le_of_ble_eq_true rfl)⟩ rfl hl.1 rfl (Nat.le_of_ble_eq_true rfl) dX6_save_5 zroom.rf (fun x2 s3 H locs hφ hEs3 hT => ?_)
  have R4 : RI κ s3 this := h0.ext hEs3 ⟨rfl, rfl, fun _ => rfl, fun _ => rfl, fun _ => rfl, fun _ => rfl⟩
  have B5 := R4.b
  rw [erW] at B5
  have K6 : zI s3 this 7 = zI σ0 this 7 := hT.eI t_this (by decide) rfl rfl
  have K6n : (zI s3 this 7).toInt = (zI σ0 this 7).toInt := by rw [K6]
  have J7 : zJ s3 rW = zJ σ0 rW := funext fun k => hT.eJ trW (by decide) rfl rfl
  have J7n : (zJ s3 (kR κ this 1) 4).toInt = (zJ σ0 rW 4).toInt := by rw [erW, J7]
  have P8 : zI s3 rP = zI σ0 rP := funext fun k => hT.eI trP (by decide) rfl rfl
  try simp only [K6, J7, P8] at B5
  obtain ⟨f9, f10⟩ := hφ
  try simp only [erW, erP, ix_0, ix_1, ix_2, ix_3, ix_4, ix_5, ix_6, ix_7, ix_8, ix_9, K6, J7, P8] at f9
  refine lv_if_eq (tgt := 15) hx hb dX6_save_8 (by decide) (fun c9 => ?_) (fun c9 => ?_)
  · have c1 := gi_eq c9
    refine lv_iconst (v := 1) hx hb dX6_save_15 (by decide) ?_
    have jrS : zJ s3 rS = zJ σ0 rS := funext fun k => trS.eJ hEs3 (by decide) rfl
    have jrK : zI s3 rK = zI σ0 rK := funext fun k => trK.eI hEs3 (by decide) rfl
    have hTo := hT
    refine pf20_0 hx hb hg hown hK hT (hT.k t_this (by decide)) rfl (hg _ k1219) dX6_save_16 (fun H locs s11 hus11 hT => ?_)
    have R12 : RI κ s11 this := R4.put hus11 (hTo.k t_this (by decide)) (by decide)
    have B13 := R12.b
    rw [erW] at B13
    have K14 : zI s11 this 7 = zI σ0 this 7 := hT.eI t_this (by decide) rfl rfl
    have K14n : (zI s11 this 7).toInt = (zI σ0 this 7).toInt := by rw [K14]
    have J15 : zJ s11 rW = zJ σ0 rW := funext fun k => hT.eJ trW (by decide) rfl rfl
    have J15n : (zJ s11 (kR κ this 1) 4).toInt = (zJ σ0 rW 4).toInt := by rw [erW, J15]
    have P16 : zI s11 rP = zI σ0 rP := funext fun k => hT.eI trP (by decide) rfl rfl
    try simp only [K14, J15, P16] at B13
    have e17 : zI s11 this 0 = 1 := zput_at hus11
    refine lv_iconst (v := 0) hx hb dX6_save_19 (by decide) ?_
    refine lv_istore_n (lv' := [(2, .int 0), (0, .ref this), (1, .int sl)]) hx hb dX6_save_20 rfl hl (by decide) rfl (fun ls hl => ?_)
    have loop21 : ∀ (n9 : Nat) (k : Int32) (H : Heap) (locs : List Loc) (sg : Gh) (ls : Array Slot), TS κ gS σ0 sg s H locs → (zI sg this 0 = 1) → (0 ≤ k.toInt) → (k.toInt ≤ 609) → ((1 : Int32).toInt ≠ 0 ∨ (0 ≤ sl.toInt ∧ sl.toInt ≤ 1)) → (∀ j : Nat, j < ix k → zJ sg rS (609 * ix sl + j) = zJ σ0 rW j) → (∀ x : Nat, (x < 609 * ix sl ∨ 609 * ix sl + 609 ≤ x) → zJ sg rS x = zJ σ0 rS x) → ((1 : Int32).toInt ≠ 0 → zJ sg rS = zJ σ0 rS) → (zI sg rK = zI σ0 rK) → lv_has ls 3 [(2, .int k), (0, .ref this), (1, .int sl)] → (609 - k.toInt) < n9 → tW p l e 1 25 κ s m #[.ref this, .int sl] below meth c H locs Q9 (F0 m 21 ls []) := by
      intro n9
      induction n9 with
      | zero =>
        intro k H locs sg ls hT kthis_0 q1 q2 q0 q3 q4 q6 q7 hl hm9
        exfalso
        omega
      | succ n9 ih9 =>
        have ih21 := ih9
        clear ih9
        intro k H locs s18 ls hT kthis_0 q1 q2 q0 q3 q4 q6 q7 hl hm9
        have i_k : (ix k : Int) = k.toInt := by unfold ix; omega
        refine lv_aload_n hx hb dX6_save_21 rfl (lv_at hl 1 rfl) ?_
        refine va_get (D := κ.1) (ci := 6) (v := .int (zI s18 this 0)) (C := RX6) (T := TX6) (N := 27) hx hb hg inX6 hown hK (hT.o20 (hT.k t_this (by decide))).one 0 rfl rfl 0 (by decide) (hg _ k1219) (fun _ h9 => h9) rfl dX6_save_22 ?_
        rw [kthis_0]
        refine lv_if_ne (tgt := 59) hx hb dX6_save_25 (by decide) (fun _ => ?_) (fun c9 => absurd c9 (by decide))
        refine lv_aload_n hx hb dX6_save_59 rfl (lv_at hl 1 rfl) ?_
        refine va_get (D := κ.1) (ci := 6) (v := .int (zI s18 this 0)) (C := RX6) (T := TX6) (N := 27) hx hb hg inX6 hown hK (hT.o20 (hT.k t_this (by decide))).one 0 rfl rfl 0 (by decide) (hg _ k1219) (fun _ h9 => h9) rfl dX6_save_60 ?_
        rw [kthis_0]
        refine lv_if_ne (tgt := 73) hx hb dX6_save_63 (by decide) (fun _ => ?_) (fun c9 => absurd c9 (by decide))
        subst hQ9
        exact t_v hx hb hr hlocks hT ⟨(h0.slots hT.2.2.1 ⟨rfl, rfl, fun _ => rfl, fun _ => rfl⟩ (fun i hi hz => by rw [erK, q7, ← erK] at hz; have z9 := h0.2.2.2.2 i hi hz; rw [erS] at z9 ⊢; rw [q6 (by omega)]; exact z9)), Or.inr ⟨by omega, by rw [erK]; exact q7, by rw [erS]; exact q6 (by omega)⟩⟩ dX6_save_73
    exact loop21 ((609 - (0 : Int32).toInt).toNat + 1) 0 _ _ _ _ hT e17 (by omega) (by omega) (by omega) (fun j hj => by rw [ix_0] at hj; omega) (fun x hx => congrFun ((zput_J (x := rS) hus11).trans jrS) x) (fun _ => ((zput_J (x := rS) hus11).trans jrS)) ((zput_Io hus11 ((hTo.k trK (by decide)).ne (hTo.k t_this (by decide)) (by decide))).trans jrK) hl (by omega)
  · have c2 := gi_ne c9
    refine lv_iconst (v := 0) hx hb dX6_save_11 (by decide) ?_
    refine lv_goto (tgt := 16) hx hb dX6_save_12 (by decide) ?_
    have jrS : zJ s3 rS = zJ σ0 rS := funext fun k => trS.eJ hEs3 (by decide) rfl
    have jrK : zI s3 rK = zI σ0 rK := funext fun k => trK.eI hEs3 (by decide) rfl
    have hTo := hT
    refine pf20_0 hx hb hg hown hK hT (hT.k t_this (by decide)) rfl (hg _ k1219) dX6_save_16 (fun H locs s19 hus19 hT => ?_)
    have R20 : RI κ s19 this := R4.put hus19 (hTo.k t_this (by decide)) (by decide)
    have B21 := R20.b
    rw [erW] at B21
    have K22 : zI s19 this 7 = zI σ0 this 7 := hT.eI t_this (by decide) rfl rfl
    have K22n : (zI s19 this 7).toInt = (zI σ0 this 7).toInt := by rw [K22]
    have J23 : zJ s19 rW = zJ σ0 rW := funext fun k => hT.eJ trW (by decide) rfl rfl
    have J23n : (zJ s19 (kR κ this 1) 4).toInt = (zJ σ0 rW 4).toInt := by rw [erW, J23]
    have P24 : zI s19 rP = zI σ0 rP := funext fun k => hT.eI trP (by decide) rfl rfl
    try simp only [K22, J23, P24] at B21
    have e25 : zI s19 this 0 = 0 := zput_at hus19
    refine lv_iconst (v := 0) hx hb dX6_save_19 (by decide) ?_
    refine lv_istore_n (lv' := [(2, .int 0), (0, .ref this), (1, .int sl)]) hx hb dX6_save_20 rfl hl (by decide) rfl (fun ls hl => ?_)
    have loop21 : ∀ (n9 : Nat) (k : Int32) (H : Heap) (locs : List Loc) (sg : Gh) (ls : Array Slot), TS κ gS σ0 sg s H locs → (zI sg this 0 = 0) → (0 ≤ k.toInt) → (k.toInt ≤ 609) → ((0 : Int32).toInt ≠ 0 ∨ (0 ≤ sl.toInt ∧ sl.toInt ≤ 1)) → (∀ j : Nat, j < ix k → zJ sg rS (609 * ix sl + j) = zJ σ0 rW j) → (∀ x : Nat, (x < 609 * ix sl ∨ 609 * ix sl + 609 ≤ x) → zJ sg rS x = zJ σ0 rS x) → ((0 : Int32).toInt ≠ 0 → zJ sg rS = zJ σ0 rS) → (zI sg rK = zI σ0 rK) → lv_has ls 3 [(2, .int k), (0, .ref this), (1, .int sl)] → (609 - k.toInt) < n9 → tW p l e 1 25 κ s m #[.ref this, .int sl] below meth c H locs Q9 (F0 m 21 ls []) := by
      intro n9
      induction n9 with
      | zero =>
        intro k H locs sg ls hT kthis_0 q1 q2 q0 q3 q4 q6 q7 hl hm9
        exfalso
        omega
      | succ n9 ih9 =>
        have ih21 := ih9
        clear ih9
        intro k H locs s26 ls hT kthis_0 q1 q2 q0 q3 q4 q6 q7 hl hm9
        have i_k : (ix k : Int) = k.toInt := by unfold ix; omega
        refine lv_aload_n hx hb dX6_save_21 rfl (lv_at hl 1 rfl) ?_
        refine va_get (D := κ.1) (ci := 6) (v := .int (zI s26 this 0)) (C := RX6) (T := TX6) (N := 27) hx hb hg inX6 hown hK (hT.o20 (hT.k t_this (by decide))).one 0 rfl rfl 0 (by decide) (hg _ k1219) (fun _ h9 => h9) rfl dX6_save_22 ?_
        rw [kthis_0]
        refine lv_if_ne (tgt := 59) hx hb dX6_save_25 (by decide) (fun c9 => absurd (by decide) c9) (fun _ => ?_)
        refine lv_iload_n hx hb dX6_save_28 rfl (lv_at hl 0 rfl) ?_
        refine lv_sipush (v := 609) hx hb dX6_save_29 (by decide) ?_
        refine lv_icmp_ge (tgt := 59) hx hb dX6_save_32 (by decide) (fun c9 => ?_) (fun c9 => ?_)
        · have c3 := gi_le c9
          refine lv_aload_n hx hb dX6_save_59 rfl (lv_at hl 1 rfl) ?_
          refine va_get (D := κ.1) (ci := 6) (v := .int (zI s26 this 0)) (C := RX6) (T := TX6) (N := 27) hx hb hg inX6 hown hK (hT.o20 (hT.k t_this (by decide))).one 0 rfl rfl 0 (by decide) (hg _ k1219) (fun _ h9 => h9) rfl dX6_save_60 ?_
          rw [kthis_0]
          refine lv_if_ne (tgt := 73) hx hb dX6_save_63 (by decide) (fun c9 => absurd (by decide) c9) (fun _ => ?_)
          refine lv_aload_n hx hb dX6_save_66 rfl (lv_at hl 1 rfl) ?_
          refine va_get (D := κ.1) (ci := 6) (v := .ref (kR κ this 4)) (C := RX6) (T := TX6) (N := 27) hx hb hg inX6 hown hK (hT.o20 (hT.k t_this (by decide))).one 0 rfl rfl 4 (by decide) (hg _ k1223) (fun _ h9 => h9) rfl dX6_save_67 ?_
          rw [erK]
          refine lv_iload_n hx hb dX6_save_70 rfl (lv_at hl 2 rfl) ?_
          refine lv_iconst (v := 1) hx hb dX6_save_71 (by decide) ?_
          have hTo := hT
          refine tastz (n := 2) hx hb hK hT (hT.k trK (by decide)) ⟨by decide, by decide⟩ (fun _ _ _ => rfl) (fun _ _ => trivial) (fun _ => rfl) (by omega) (by omega) dX6_save_72 (fun H locs s27 hus27 hT => ?_)
          have kthis_0 : zI s27 this 0 = 0 := (zput_o hus27 (Or.inl ((hTo.k t_this (by decide)).ne (hTo.k trK (by decide)) (by decide)))).trans kthis_0
          subst hQ9
          exact t_v hx hb hr hlocks hT ⟨(h0.slots hT.2.2.1 ⟨rfl, rfl, fun _ => rfl, fun _ => rfl⟩ (fun i hi hz => (Classical.em (i = ix sl)).elim (fun e9 => by rw [erS, e9]; exact hW.of609 (fun j hj => by show zJ s27 rS (609 * ix sl + j) = zJ σ0 rW j; rw [zput_J hus27]; exact q3 j (by unfold ix at *; omega))) (fun e9 => by rw [erK, zput_o hus27 (Or.inr e9), q7, ← erK] at hz; have z9 := h0.2.2.2.2 i hi hz; rw [erS] at z9 ⊢; exact z9.congr (fun j hj => by show zJ s27 rS (609 * i + j) = zJ σ0 rS (609 * i + j); rw [zput_J hus27]; exact q4 _ (by unfold rel at hj; omega))))), Or.inl ⟨by omega, by omega, fun j => by rw [erK]; exact (Classical.em (j = ix sl)).elim (fun e9 => by rw [if_pos e9, e9, zput_at hus27]; decide) (fun e9 => by rw [if_neg e9, zput_o hus27 (Or.inr e9), q7]), fun j hj => by rw [erS, erW, zput_J hus27]; exact q3 j (by unfold ix at *; omega), fun x hx => by rw [erS, zput_J hus27]; exact q4 x hx⟩⟩ dX6_save_73
        · have c4 := gi_nle c9
          refine lv_aload_n hx hb dX6_save_35 rfl (lv_at hl 1 rfl) ?_
          refine va_get (D := κ.1) (ci := 6) (v := .ref (kR κ this 3)) (C := RX6) (T := TX6) (N := 27) hx hb hg inX6 hown hK (hT.o20 (hT.k t_this (by decide))).one 0 rfl rfl 3 (by decide) (hg _ k1222) (fun _ h9 => h9) rfl dX6_save_36 ?_
          rw [erS]
          refine lv_sipush (v := 609) hx hb dX6_save_39 (by decide) ?_
          refine lv_iload_n hx hb dX6_save_42 rfl (lv_at hl 2 rfl) ?_
          refine lv_imul hx hb dX6_save_43 ?_
          first | (refine g_mul (by rw [n609]; omega) (by rw [n609]; omega) (fun t28 ht28 => ?_); rw [n609] at ht28) | refine lv_topi (fun t28 ht28 => ?_)
          refine lv_iload_n hx hb dX6_save_44 rfl (lv_at hl 0 rfl) ?_
          refine lv_iadd hx hb dX6_save_45 ?_
          first | refine g_add (by omega) (by omega) (fun t29 ht29 => ?_) | refine lv_topi (fun t29 ht29 => ?_)
          refine lv_aload_n hx hb dX6_save_46 rfl (lv_at hl 1 rfl) ?_
          refine va_get (D := κ.1) (ci := 6) (v := .ref (kR κ this 1)) (C := RX6) (T := TX6) (N := 27) hx hb hg inX6 hown hK (hT.o20 (hT.k t_this (by decide))).one 0 rfl rfl 1 (by decide) (hg _ k1220) (fun _ h9 => h9) rfl dX6_save_47 ?_
          rw [erW]
          refine lv_iload_n hx hb dX6_save_50 rfl (lv_at hl 0 rfl) ?_
          refine va_lald hx hb hK (hT.o21 (hT.k trW (by decide))).one 0 1 rfl rfl (g_in (by omega) (by omega)) dX6_save_51 ?_
          refine lv_topl (fun t30 ht30 => ?_)
          have K31 : zI s26 this 7 = zI σ0 this 7 := hT.eI t_this (by decide) rfl rfl
          have K31n : (zI s26 this 7).toInt = (zI σ0 this 7).toInt := by rw [K31]
          have J32 : zJ s26 rW = zJ σ0 rW := funext fun k => hT.eJ trW (by decide) rfl rfl
          have J32n : (zJ s26 (kR κ this 1) 4).toInt = (zJ σ0 rW 4).toInt := by rw [erW, J32]
          have P33 : zI s26 rP = zI σ0 rP := funext fun k => hT.eI trP (by decide) rfl rfl
          have hTo := hT
          refine tastl (n := 1218) hx hb hK hT (hT.k trS (by decide)) ⟨by decide, by decide⟩ (fun _ _ _ => rfl) (fun _ _ => trivial) (fun _ => rfl) (by omega) (by omega) dX6_save_52 (fun H locs s34 hus34 hT => ?_)
          have kthis_0 : zI s34 this 0 = 0 := by rw [zpul_I hus34]; exact kthis_0
          obtain ⟨t35, qt35⟩ : ∃ zz9 : Int32, k + Int32.ofInt 1 = zz9 := ⟨_, rfl⟩
          refine lv_iinc (v := t35) (lv' := [(2, .int t35), (0, .ref this), (1, .int sl)]) hx hb dX6_save_53 hl (k := 0) rfl qt35 (by decide) rfl (fun ls hl => ?_)
          have ht35 : t35.toInt = k.toInt + 1 := by rw [← qt35]; exact v_addi rfl (show (Int32.ofInt 1).toInt = 1 from by decide) (by omega) (by omega)
          refine lv_goto (tgt := 21) hx hb dX6_save_56 (by decide) ?_
          exact ih21 t35 _ _ _ _ hT kthis_0 (by omega) (by omega) (by omega) (fun j hj => by rw [zpul_Ja hus34, (show ix t29 = 609 * ix sl + ix k from by unfold ix; omega)]; rw [(show ix t35 = ix k + 1 from by unfold ix; omega)] at hj; exact (Classical.em (j = ix k)).elim (fun e9 => by rw [e9, uh, ht30]; exact hTo.eJ trW (by decide) rfl rfl) (fun e9 => by rw [un (show 609 * ix sl + j ≠ 609 * ix sl + ix k from by omega)]; exact q3 j (by omega))) (fun x hx => by rw [zpul_Ja hus34, (show ix t29 = 609 * ix sl + ix k from by unfold ix; omega), un (show x ≠ 609 * ix sl + ix k from by unfold ix at *; omega)]; exact q4 x hx) (fun q9 => by omega) (by rw [zpul_I hus34]; exact q7) hl (by omega)
    exact loop21 ((609 - (0 : Int32).toInt).toNat + 1) 0 _ _ _ _ hT e25 (by omega) (by omega) (by omega) (fun j hj => by rw [ix_0] at hj; omega) (fun x hx => congrFun ((zput_J (x := rS) hus19).trans jrS) x) (fun _ => ((zput_J (x := rS) hus19).trans jrS)) ((zput_Io hus19 ((hTo.k trK (by decide)).ne (hTo.k t_this (by decide)) (by decide))).trans jrK) hl (by omega)
set_option maxHeartbeats 4000000 in
set_option maxRecDepth 100000 in
theorem X6s_restore (l : Launch) (κ : Kt) (σ0 : Gh) (this : Nat) (sl : Int32) (t_this : zk σ0 this 20) (h0 : RI κ σ0 this) : TC l yX6_restore cX6_restore 3 none 1 25 [.ref this, .int sl] κ σ0 (tqv κ gXs σ0 (fun (τ : Gh) => (RI κ τ this) ∧ (((sl.toInt < 0 ∨ 1 < sl.toInt) ∧ (zI τ this 0).toInt = 1 ∧ (∀ j : Nat, j < 3 → zJ τ (kR κ this 1) j = zJ σ0 (kR κ this 1) j)) ∨ (0 ≤ sl.toInt ∧ sl.toInt ≤ 1 ∧ zI σ0 (kR κ this 4) (ix sl) ≠ 0 ∧ (zI τ this 0).toInt = 0 ∧ ∀ j : Nat, j < 3 → zJ τ (kR κ this 1) j = zJ σ0 (kR κ this 3) (609 * ix sl + j)) ∨ (0 ≤ sl.toInt ∧ sl.toInt ≤ 1 ∧ zI σ0 (kR κ this 4) (ix sl) = 0 ∧ (zI τ this 0).toInt = 2 ∧ (∀ j : Nat, j < 3 → zJ τ (kR κ this 1) j = zJ σ0 (kR κ this 1) j))))) := by
  refine TC.of gXs (by decide +kernel) (Nat.le_of_ble_eq_true rfl) ?_
  intro p e s m below meth c ls hcs hK hX hT hl
  obtain ⟨hx, hb, hr, hml, hown, hg, hlocks, hin⟩ := hcs
  have hown : s.vm.findClass RX6 = some m.cls := hown
  have hl : lv_has ls 3 [(0, .ref this), (1, .int sl)] := hl
  have hT0 := hT
  have n0 : (0 : Int32).toInt = 0 := by decide
  have n1 : (1 : Int32).toInt = 1 := by decide
  have n2 : (2 : Int32).toInt = 2 := by decide
  have n609 : (609 : Int32).toInt = 609 := by decide
  have j0 : (0 : Int64).toInt = 0 := by decide
  have j1 : (1 : Int64).toInt = 1 := by decide
  have sl_lo := Int32.le_toInt sl
  have sl_hi := Int32.toInt_lt sl
  generalize hQ9 : tQ _ _ _ _ _ _ = Q9
  obtain ⟨rW, erW⟩ : ∃ z, kR κ this 1 = z := ⟨_, rfl⟩
  have trW : zk σ0 rW 21 := by rw [← erW]; exact h0.1.2.1
  obtain ⟨rP, erP⟩ : ∃ z, kR κ this 5 = z := ⟨_, rfl⟩
  have trP : zk σ0 rP 25 := by rw [← erP]; exact h0.1.2.2.2.2
  have hB0 := h0.b
  rw [erW] at hB0
  have hW := h0.2.1
  rw [erW] at hW
  have hP := h0.2.2.1
  rw [erP] at hP
  have hrN : (rN σ0 this : Int) = (zI σ0 this 7).toInt := by unfold rN; omega
  obtain ⟨rS, erS⟩ : ∃ z, kR κ this 3 = z := ⟨_, rfl⟩
  have trS : zk σ0 rS 22 := by rw [← erS]; exact hT0.ref t_this (by decide) (by decide) (by decide)
  obtain ⟨rK, erK⟩ : ∃ z, kR κ this 4 = z := ⟨_, rfl⟩
  have trK : zk σ0 rK 29 := by rw [← erK]; exact hT0.ref t_this (by decide) (by decide) (by decide)
  refine lv_aload_n hx hb dX6_restore_0 rfl (lv_at hl 0 rfl) ?_
  refine lv_iload_n hx hb dX6_restore_1 rfl (lv_at hl 1 rfl) ?_
  refine lv_i2l hx hb dX6_restore_2 rfl ?_
  refine g_i2l (fun t1 ht1 => ?_)
  refine lv_lconst (v := 0) hx hb dX6_restore_3 (by decide) ?_
  refine lv_lconst (v := 1) hx hb dX6_restore_4 (by decide) ?_
  have hTo := hT
  refine tSi (n := 3) (As := [.long t1, .long 0, .long 1]) (rest := [.ref this]) hx hb hml hown hg hT hK hX (X6_in l κ σ0 t1 0 1   ) sub_fE_gXs (mwS k1313 k1314 k92 k1315) ⟨rfl, by decide, by decide, by decide +kernel⟩ ⟨(Nat.le_of_ble_eq_true rfl), (Nat.le_of_ble_eq_true rfl)⟩ rfl hl.1 rfl (Nat.le_of_ble_eq_true rfl) dX6_restore_5 zroom.rf (fun x2 s3 H locs hφ hEs3 hT => ?_)
  have R4 : RI κ s3 this := h0.ext hEs3 ⟨rfl, rfl, fun _ => rfl, fun _ => rfl, fun _ => rfl, fun _ => rfl⟩
  have B5 := R4.b
  rw [erW] at B5
  have K6 : zI s3 this 7 = zI σ0 this 7 := hT.eI t_this (by decide) rfl rfl
  have K6n : (zI s3 this 7).toInt = (zI σ0 this 7).toInt := by rw [K6]
  have P7 : zI s3 rP = zI σ0 rP := funext fun k => hT.eI trP (by decide) rfl rfl
  try simp only [K6, P7] at B5
  obtain ⟨f8, f9⟩ := hφ
  try simp only [erW, erP, ix_0, ix_1, ix_2, ix_3, ix_4, ix_5, ix_6, ix_7, ix_8, ix_9, K6, P7] at f8
  refine lv_if_ne (tgt := 15) hx hb dX6_restore_8 (by decide) (fun c9 => ?_) (fun c9 => ?_)
  · have c1 := gi_ne c9
    refine lv_aload_n hx hb dX6_restore_15 rfl (lv_at hl 0 rfl) ?_
    refine va_get (D := κ.1) (ci := 6) (v := .ref (kR κ this 4)) (C := RX6) (T := TX6) (N := 27) hx hb hg inX6 hown hK (hT.o20 (hT.k t_this (by decide))).one 0 rfl rfl 4 (by decide) (hg _ k1223) (fun _ h9 => h9) rfl dX6_restore_16 ?_
    rw [erK]
    refine lv_iload_n hx hb dX6_restore_19 rfl (lv_at hl 1 rfl) ?_
    refine va_zald hx hb hK (hT.o29 (hT.k trK (by decide))).one 0 3 rfl rfl (g_in (by omega) (by omega)) dX6_restore_20 ?_
    refine lv_topi (fun t10 ht10 => ?_)
    refine lv_if_eq (tgt := 28) hx hb dX6_restore_21 (by decide) (fun c9 => ?_) (fun c9 => ?_)
    · have c2 := gi_eq c9
      have z7 : zI σ0 rK (ix sl) = 0 := b0_of (z := t10) (by rw [ht10]; exact hT.eI trK (by decide) rfl rfl) (by omega)
      refine lv_iconst (v := 2) hx hb dX6_restore_28 (by decide) ?_
      have jrW : zJ s3 rW = zJ σ0 rW := funext fun k => trW.eJ hEs3 (by decide) rfl
      have hTo := hT
      refine pf20_0 hx hb hg hown hK hT (hT.k t_this (by decide)) rfl (hg _ k1219) dX6_restore_29 (fun H locs s11 hus11 hT => ?_)
      have R12 : RI κ s11 this := R4.put hus11 (hTo.k t_this (by decide)) (by decide)
      have B13 := R12.b
      rw [erW] at B13
      have K14 : zI s11 this 7 = zI σ0 this 7 := hT.eI t_this (by decide) rfl rfl
      have K14n : (zI s11 this 7).toInt = (zI σ0 this 7).toInt := by rw [K14]
      have P15 : zI s11 rP = zI σ0 rP := funext fun k => hT.eI trP (by decide) rfl rfl
      try simp only [K14, P15] at B13
      have e16 : zI s11 this 0 = 2 := zput_at hus11
      refine lv_iconst (v := 0) hx hb dX6_restore_32 (by decide) ?_
      refine lv_istore_n (lv' := [(2, .int 0), (0, .ref this), (1, .int sl)]) hx hb dX6_restore_33 rfl hl (by decide) rfl (fun ls hl => ?_)
      have loop34 : ∀ (n9 : Nat) (k : Int32) (H : Heap) (locs : List Loc) (sg : Gh) (ls : Array Slot), TS κ gXs σ0 sg s H locs → (zI sg this 0 = 2) → (0 ≤ k.toInt) → (k.toInt ≤ 609) → ((2 : Int32).toInt ≠ 0 ∨ (0 ≤ sl.toInt ∧ sl.toInt ≤ 1)) → ((2 : Int32).toInt ≠ 0 ∨ zI σ0 rK (ix sl) ≠ 0) → (∀ j : Nat, j < ix k → zJ sg rW j = zJ σ0 rS (609 * ix sl + j)) → ((2 : Int32).toInt ≠ 0 → zJ sg rW = zJ σ0 rW) → lv_has ls 3 [(2, .int k), (0, .ref this), (1, .int sl)] → (609 - k.toInt) < n9 → tW p l e 1 25 κ s m #[.ref this, .int sl] below meth c H locs Q9 (F0 m 34 ls []) := by
        intro n9
        induction n9 with
        | zero =>
          intro k H locs sg ls hT kthis_0 q1 q2 q0 q8 q3 q6 hl hm9
          exfalso
          omega
        | succ n9 ih9 =>
          have ih34 := ih9
          clear ih9
          intro k H locs s17 ls hT kthis_0 q1 q2 q0 q8 q3 q6 hl hm9
          have i_k : (ix k : Int) = k.toInt := by unfold ix; omega
          refine lv_aload_n hx hb dX6_restore_34 rfl (lv_at hl 1 rfl) ?_
          refine va_get (D := κ.1) (ci := 6) (v := .int (zI s17 this 0)) (C := RX6) (T := TX6) (N := 27) hx hb hg inX6 hown hK (hT.o20 (hT.k t_this (by decide))).one 0 rfl rfl 0 (by decide) (hg _ k1219) (fun _ h9 => h9) rfl dX6_restore_35 ?_
          rw [kthis_0]
          refine lv_if_ne (tgt := 72) hx hb dX6_restore_38 (by decide) (fun _ => ?_) (fun c9 => absurd c9 (by decide))
          subst hQ9
          exact t_v hx hb hr hlocks hT ⟨(h0.extw hT.2.2.1 ⟨rfl, rfl, fun _ => rfl, fun _ => rfl, fun _ => rfl⟩ (by rw [erW, q6 (by omega)]; exact hW)), Or.inr (Or.inr ⟨by omega, by omega, by rw [erK]; exact z7, by rw [kthis_0]; exact n2, fun j hj => by rw [erW, q6 (by omega)]⟩)⟩ dX6_restore_72
      exact loop34 ((609 - (0 : Int32).toInt).toNat + 1) 0 _ _ _ _ hT e16 (by omega) (by omega) (by omega) (Or.inl (by omega)) (fun j hj => by rw [ix_0] at hj; omega) (fun _ => ((zput_J (x := rW) hus11).trans jrW)) hl (by omega)
    · have c3 := gi_ne c9
      have z8 : zI σ0 rK (ix sl) ≠ 0 := fun z9 => by
        have y8 : t10 = 0 := by rw [ht10, show zI s3 rK = zI σ0 rK from funext fun k => hT.eI trK (by decide) rfl rfl]; exact z9
        have y7 : t10.toInt = 0 := by rw [y8]; decide
        omega
      refine lv_iconst (v := 0) hx hb dX6_restore_24 (by decide) ?_
      refine lv_goto (tgt := 29) hx hb dX6_restore_25 (by decide) ?_
      have jrW : zJ s3 rW = zJ σ0 rW := funext fun k => trW.eJ hEs3 (by decide) rfl
      have hTo := hT
      refine pf20_0 hx hb hg hown hK hT (hT.k t_this (by decide)) rfl (hg _ k1219) dX6_restore_29 (fun H locs s18 hus18 hT => ?_)
      have R19 : RI κ s18 this := R4.put hus18 (hTo.k t_this (by decide)) (by decide)
      have B20 := R19.b
      rw [erW] at B20
      have K21 : zI s18 this 7 = zI σ0 this 7 := hT.eI t_this (by decide) rfl rfl
      have K21n : (zI s18 this 7).toInt = (zI σ0 this 7).toInt := by rw [K21]
      have P22 : zI s18 rP = zI σ0 rP := funext fun k => hT.eI trP (by decide) rfl rfl
      try simp only [K21, P22] at B20
      have e23 : zI s18 this 0 = 0 := zput_at hus18
      refine lv_iconst (v := 0) hx hb dX6_restore_32 (by decide) ?_
      refine lv_istore_n (lv' := [(2, .int 0), (0, .ref this), (1, .int sl)]) hx hb dX6_restore_33 rfl hl (by decide) rfl (fun ls hl => ?_)
      have loop34 : ∀ (n9 : Nat) (k : Int32) (H : Heap) (locs : List Loc) (sg : Gh) (ls : Array Slot), TS κ gXs σ0 sg s H locs → (zI sg this 0 = 0) → (0 ≤ k.toInt) → (k.toInt ≤ 609) → ((0 : Int32).toInt ≠ 0 ∨ (0 ≤ sl.toInt ∧ sl.toInt ≤ 1)) → ((0 : Int32).toInt ≠ 0 ∨ zI σ0 rK (ix sl) ≠ 0) → (∀ j : Nat, j < ix k → zJ sg rW j = zJ σ0 rS (609 * ix sl + j)) → ((0 : Int32).toInt ≠ 0 → zJ sg rW = zJ σ0 rW) → lv_has ls 3 [(2, .int k), (0, .ref this), (1, .int sl)] → (609 - k.toInt) < n9 → tW p l e 1 25 κ s m #[.ref this, .int sl] below meth c H locs Q9 (F0 m 34 ls []) := by
        intro n9
        induction n9 with
        | zero =>
          intro k H locs sg ls hT kthis_0 q1 q2 q0 q8 q3 q6 hl hm9
          exfalso
          omega
        | succ n9 ih9 =>
          have ih34 := ih9
          clear ih9
          intro k H locs s24 ls hT kthis_0 q1 q2 q0 q8 q3 q6 hl hm9
          have i_k : (ix k : Int) = k.toInt := by unfold ix; omega
          refine lv_aload_n hx hb dX6_restore_34 rfl (lv_at hl 1 rfl) ?_
          refine va_get (D := κ.1) (ci := 6) (v := .int (zI s24 this 0)) (C := RX6) (T := TX6) (N := 27) hx hb hg inX6 hown hK (hT.o20 (hT.k t_this (by decide))).one 0 rfl rfl 0 (by decide) (hg _ k1219) (fun _ h9 => h9) rfl dX6_restore_35 ?_
          rw [kthis_0]
          refine lv_if_ne (tgt := 72) hx hb dX6_restore_38 (by decide) (fun c9 => absurd (by decide) c9) (fun _ => ?_)
          refine lv_iload_n hx hb dX6_restore_41 rfl (lv_at hl 0 rfl) ?_
          refine lv_sipush (v := 609) hx hb dX6_restore_42 (by decide) ?_
          refine lv_icmp_ge (tgt := 72) hx hb dX6_restore_45 (by decide) (fun c9 => ?_) (fun c9 => ?_)
          · have c4 := gi_le c9
            subst hQ9
            exact t_v hx hb hr hlocks hT ⟨(h0.extw hT.2.2.1 ⟨rfl, rfl, fun _ => rfl, fun _ => rfl, fun _ => rfl⟩ (by rw [erW]; have z9 := h0.2.2.2.2 (ix sl) (by unfold ix; omega) (by rw [erK]; exact q8.resolve_left (by omega)); rw [erS] at z9; exact z9.of609 (fun j hj => q3 j (by unfold ix at *; omega)))), Or.inr (Or.inl ⟨by omega, by omega, by rw [erK]; exact q8.resolve_left (by omega), by rw [kthis_0]; exact n0, fun j hj => by rw [erW, erS]; exact q3 j (by unfold ix at *; omega)⟩)⟩ dX6_restore_72
          · have c5 := gi_nle c9
            refine lv_aload_n hx hb dX6_restore_48 rfl (lv_at hl 1 rfl) ?_
            refine va_get (D := κ.1) (ci := 6) (v := .ref (kR κ this 1)) (C := RX6) (T := TX6) (N := 27) hx hb hg inX6 hown hK (hT.o20 (hT.k t_this (by decide))).one 0 rfl rfl 1 (by decide) (hg _ k1220) (fun _ h9 => h9) rfl dX6_restore_49 ?_
            rw [erW]
            refine lv_iload_n hx hb dX6_restore_52 rfl (lv_at hl 0 rfl) ?_
            refine lv_aload_n hx hb dX6_restore_53 rfl (lv_at hl 1 rfl) ?_
            refine va_get (D := κ.1) (ci := 6) (v := .ref (kR κ this 3)) (C := RX6) (T := TX6) (N := 27) hx hb hg inX6 hown hK (hT.o20 (hT.k t_this (by decide))).one 0 rfl rfl 3 (by decide) (hg _ k1222) (fun _ h9 => h9) rfl dX6_restore_54 ?_
            rw [erS]
            refine lv_sipush (v := 609) hx hb dX6_restore_57 (by decide) ?_
            refine lv_iload_n hx hb dX6_restore_60 rfl (lv_at hl 2 rfl) ?_
            refine lv_imul hx hb dX6_restore_61 ?_
            first | (refine g_mul (by rw [n609]; omega) (by rw [n609]; omega) (fun t25 ht25 => ?_); rw [n609] at ht25) | refine lv_topi (fun t25 ht25 => ?_)
            refine lv_iload_n hx hb dX6_restore_62 rfl (lv_at hl 0 rfl) ?_
            refine lv_iadd hx hb dX6_restore_63 ?_
            first | refine g_add (by omega) (by omega) (fun t26 ht26 => ?_) | refine lv_topi (fun t26 ht26 => ?_)
            refine va_lald hx hb hK (hT.o22 (hT.k trS (by decide))).one 0 1 rfl rfl (g_in (by omega) (by omega)) dX6_restore_64 ?_
            refine lv_topl (fun t27 ht27 => ?_)
            have hTo := hT
            refine tastl (n := 609) hx hb hK hT (hT.k trW (by decide)) ⟨by decide, by decide⟩ (fun _ _ _ => rfl) (fun _ _ => trivial) (fun _ => rfl) (by omega) (by omega) dX6_restore_65 (fun H locs s28 hus28 hT => ?_)
            have kthis_0 : zI s28 this 0 = 0 := by rw [zpul_I hus28]; exact kthis_0
            obtain ⟨t29, qt29⟩ : ∃ zz9 : Int32, k + Int32.ofInt 1 = zz9 := ⟨_, rfl⟩
            refine lv_iinc (v := t29) (lv' := [(2, .int t29), (0, .ref this), (1, .int sl)]) hx hb dX6_restore_66 hl (k := 0) rfl qt29 (by decide) rfl (fun ls hl => ?_)
            have ht29 : t29.toInt = k.toInt + 1 := by rw [← qt29]; exact v_addi rfl (show (Int32.ofInt 1).toInt = 1 from by decide) (by omega) (by omega)
            refine lv_goto (tgt := 34) hx hb dX6_restore_69 (by decide) ?_
            exact ih34 t29 _ _ _ _ hT kthis_0 (by omega) (by omega) (by omega) q8 (fun j hj => by rw [zpul_Ja hus28]; rw [(show ix t29 = ix k + 1 from by unfold ix; omega)] at hj; exact (Classical.em (j = ix k)).elim (fun e9 => by rw [e9, uh, ht27]; exact Eq.trans (hTo.eJ (k := ix t26) trS (by decide) rfl rfl) (congrArg (zJ σ0 rS) (show ix t26 = 609 * ix sl + ix k from by unfold ix; omega))) (fun e9 => by rw [un e9]; exact q3 j (by omega))) (fun q9 => by omega) hl (by omega)
      exact loop34 ((609 - (0 : Int32).toInt).toNat + 1) 0 _ _ _ _ hT e23 (by omega) (by omega) (by omega) (Or.inr z8) (fun j hj => by rw [ix_0] at hj; omega) (fun _ => ((zput_J (x := rW) hus18).trans jrW)) hl (by omega)
  · have c6 := gi_eq c9
    refine lv_iconst (v := 1) hx hb dX6_restore_11 (by decide) ?_
    refine lv_goto (tgt := 29) hx hb dX6_restore_12 (by decide) ?_
    have jrW : zJ s3 rW = zJ σ0 rW := funext fun k => trW.eJ hEs3 (by decide) rfl
    have hTo := hT
    refine pf20_0 hx hb hg hown hK hT (hT.k t_this (by decide)) rfl (hg _ k1219) dX6_restore_29 (fun H locs s30 hus30 hT => ?_)
    have R31 : RI κ s30 this := R4.put hus30 (hTo.k t_this (by decide)) (by decide)
    have B32 := R31.b
    rw [erW] at B32
    have K33 : zI s30 this 7 = zI σ0 this 7 := hT.eI t_this (by decide) rfl rfl
    have K33n : (zI s30 this 7).toInt = (zI σ0 this 7).toInt := by rw [K33]
    have P34 : zI s30 rP = zI σ0 rP := funext fun k => hT.eI trP (by decide) rfl rfl
    try simp only [K33, P34] at B32
    have e35 : zI s30 this 0 = 1 := zput_at hus30
    refine lv_iconst (v := 0) hx hb dX6_restore_32 (by decide) ?_
    refine lv_istore_n (lv' := [(2, .int 0), (0, .ref this), (1, .int sl)]) hx hb dX6_restore_33 rfl hl (by decide) rfl (fun ls hl => ?_)
    have loop34 : ∀ (n9 : Nat) (k : Int32) (H : Heap) (locs : List Loc) (sg : Gh) (ls : Array Slot), TS κ gXs σ0 sg s H locs → (zI sg this 0 = 1) → (0 ≤ k.toInt) → (k.toInt ≤ 609) → ((1 : Int32).toInt ≠ 0 ∨ (0 ≤ sl.toInt ∧ sl.toInt ≤ 1)) → ((1 : Int32).toInt ≠ 0 ∨ zI σ0 rK (ix sl) ≠ 0) → (∀ j : Nat, j < ix k → zJ sg rW j = zJ σ0 rS (609 * ix sl + j)) → ((1 : Int32).toInt ≠ 0 → zJ sg rW = zJ σ0 rW) → lv_has ls 3 [(2, .int k), (0, .ref this), (1, .int sl)] → (609 - k.toInt) < n9 → tW p l e 1 25 κ s m #[.ref this, .int sl] below meth c H locs Q9 (F0 m 34 ls []) := by
      intro n9
      induction n9 with
      | zero =>
        intro k H locs sg ls hT kthis_0 q1 q2 q0 q8 q3 q6 hl hm9
        exfalso
        omega
      | succ n9 ih9 =>
        have ih34 := ih9
        clear ih9
        intro k H locs s36 ls hT kthis_0 q1 q2 q0 q8 q3 q6 hl hm9
        have i_k : (ix k : Int) = k.toInt := by unfold ix; omega
        refine lv_aload_n hx hb dX6_restore_34 rfl (lv_at hl 1 rfl) ?_
        refine va_get (D := κ.1) (ci := 6) (v := .int (zI s36 this 0)) (C := RX6) (T := TX6) (N := 27) hx hb hg inX6 hown hK (hT.o20 (hT.k t_this (by decide))).one 0 rfl rfl 0 (by decide) (hg _ k1219) (fun _ h9 => h9) rfl dX6_restore_35 ?_
        rw [kthis_0]
        refine lv_if_ne (tgt := 72) hx hb dX6_restore_38 (by decide) (fun _ => ?_) (fun c9 => absurd c9 (by decide))
        subst hQ9
        exact t_v hx hb hr hlocks hT ⟨(h0.extw hT.2.2.1 ⟨rfl, rfl, fun _ => rfl, fun _ => rfl, fun _ => rfl⟩ (by rw [erW, q6 (by omega)]; exact hW)), Or.inl ⟨by omega, by rw [kthis_0]; exact n1, fun j hj => by rw [erW, q6 (by omega)]⟩⟩ dX6_restore_72
    exact loop34 ((609 - (0 : Int32).toInt).toNat + 1) 0 _ _ _ _ hT e35 (by omega) (by omega) (by omega) (Or.inl (by omega)) (fun j hj => by rw [ix_0] at hj; omega) (fun _ => ((zput_J (x := rW) hus30).trans jrW)) hl (by omega)
